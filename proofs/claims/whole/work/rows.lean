section
/-- a private method of a class that the tables say can be made, by its rows of tables_1 -/
def lw_okq (q : MethodName × Nat) : Prop := (q.1.cls ≠ "java/lang/invoke/MethodHandle" ∧ q.1.cls ≠ "java/lang/invoke/VarHandle") ∧ Cond.instantiable q.1.cls q.2 ∈ tables_1 ∧ Cond.privateMethod q.1 ∈ tables_1 ∧ Cond.instanceMethod q.1 ∈ tables_1
theorem lw_p0 : lw_okq (⟨"java/util/ArrayList", "rangeCheckForAdd", "(I)V"⟩, 3) := ⟨⟨by decide +kernel, by decide +kernel⟩, List.mem_of_getElem? (i := 90) (by decide +kernel), List.mem_of_getElem? (i := 436) (by decide +kernel), List.mem_of_getElem? (i := 437) (by decide +kernel)⟩
theorem lw_p1 : lw_okq (⟨"java/util/ArrayList", "grow", "()[Ljava/lang/Object;"⟩, 3) := ⟨⟨by decide +kernel, by decide +kernel⟩, List.mem_of_getElem? (i := 90) (by decide +kernel), List.mem_of_getElem? (i := 440) (by decide +kernel), List.mem_of_getElem? (i := 441) (by decide +kernel)⟩
theorem lw_p2 : lw_okq (⟨"java/util/ArrayList", "grow", "(I)[Ljava/lang/Object;"⟩, 3) := ⟨⟨by decide +kernel, by decide +kernel⟩, List.mem_of_getElem? (i := 90) (by decide +kernel), List.mem_of_getElem? (i := 444) (by decide +kernel), List.mem_of_getElem? (i := 445) (by decide +kernel)⟩
theorem lw_p3 : lw_okq (⟨"java/util/ArrayList", "add", "(Ljava/lang/Object;[Ljava/lang/Object;I)V"⟩, 3) := ⟨⟨by decide +kernel, by decide +kernel⟩, List.mem_of_getElem? (i := 90) (by decide +kernel), List.mem_of_getElem? (i := 490) (by decide +kernel), List.mem_of_getElem? (i := 491) (by decide +kernel)⟩
theorem lw_p4 : lw_okq (⟨"FreightPaths$PathSearch", "clearMinutes", "(LFreightPaths$Bid;)V"⟩, 7) := ⟨⟨by decide +kernel, by decide +kernel⟩, List.mem_of_getElem? (i := 129) (by decide +kernel), List.mem_of_getElem? (i := 514) (by decide +kernel), List.mem_of_getElem? (i := 515) (by decide +kernel)⟩
theorem lw_p5 : lw_okq (⟨"FreightPaths$PathSearch", "blockByWorks", "(LFreightPaths$Bid;I)V"⟩, 7) := ⟨⟨by decide +kernel, by decide +kernel⟩, List.mem_of_getElem? (i := 129) (by decide +kernel), List.mem_of_getElem? (i := 518) (by decide +kernel), List.mem_of_getElem? (i := 519) (by decide +kernel)⟩
theorem lw_p6 : lw_okq (⟨"FreightPaths$PathSearch", "block", "(II)V"⟩, 7) := ⟨⟨by decide +kernel, by decide +kernel⟩, List.mem_of_getElem? (i := 129) (by decide +kernel), List.mem_of_getElem? (i := 531) (by decide +kernel), List.mem_of_getElem? (i := 532) (by decide +kernel)⟩
theorem lw_p7 : lw_okq (⟨"FreightPaths$PathSearch", "blockByOthers", "(LFreightPaths$Bid;I)V"⟩, 7) := ⟨⟨by decide +kernel, by decide +kernel⟩, List.mem_of_getElem? (i := 129) (by decide +kernel), List.mem_of_getElem? (i := 537) (by decide +kernel), List.mem_of_getElem? (i := 538) (by decide +kernel)⟩
theorem lw_p8 : lw_okq (⟨"FreightPaths$PathSearch", "countStanding", "(LFreightPaths$Bid;I)V"⟩, 7) := ⟨⟨by decide +kernel, by decide +kernel⟩, List.mem_of_getElem? (i := 129) (by decide +kernel), List.mem_of_getElem? (i := 561) (by decide +kernel), List.mem_of_getElem? (i := 562) (by decide +kernel)⟩
theorem lw_p9 : lw_okq (⟨"FreightPaths$PathSearch", "clearComings", "(LFreightPaths$Bid;I)V"⟩, 7) := ⟨⟨by decide +kernel, by decide +kernel⟩, List.mem_of_getElem? (i := 129) (by decide +kernel), List.mem_of_getElem? (i := 574) (by decide +kernel), List.mem_of_getElem? (i := 575) (by decide +kernel)⟩
theorem lw_p10 : lw_okq (⟨"FreightPaths$PathSearch", "spreadComings", "(LFreightPaths$Bid;I)V"⟩, 7) := ⟨⟨by decide +kernel, by decide +kernel⟩, List.mem_of_getElem? (i := 129) (by decide +kernel), List.mem_of_getElem? (i := 578) (by decide +kernel), List.mem_of_getElem? (i := 579) (by decide +kernel)⟩
theorem lw_p11 : lw_okq (⟨"FreightPaths$PathSearch", "traceBack", "(LFreightPaths$Bid;I)V"⟩, 7) := ⟨⟨by decide +kernel, by decide +kernel⟩, List.mem_of_getElem? (i := 129) (by decide +kernel), List.mem_of_getElem? (i := 582) (by decide +kernel), List.mem_of_getElem? (i := 583) (by decide +kernel)⟩
theorem lw_p12 : lw_okq (⟨"FreightPaths$Rounds", "startAnew", "()V"⟩, 7) := ⟨⟨by decide +kernel, by decide +kernel⟩, List.mem_of_getElem? (i := 161) (by decide +kernel), List.mem_of_getElem? (i := 606) (by decide +kernel), List.mem_of_getElem? (i := 607) (by decide +kernel)⟩
theorem lw_p13 : lw_okq (⟨"FreightPaths$Rounds", "comeWithPartner", "(LFreightPaths$Bid;)I"⟩, 7) := ⟨⟨by decide +kernel, by decide +kernel⟩, List.mem_of_getElem? (i := 161) (by decide +kernel), List.mem_of_getElem? (i := 617) (by decide +kernel), List.mem_of_getElem? (i := 618) (by decide +kernel)⟩
theorem lw_p14 : lw_okq (⟨"FreightPaths$Rounds", "takeBackWithPartner", "(LFreightPaths$Bid;)V"⟩, 7) := ⟨⟨by decide +kernel, by decide +kernel⟩, List.mem_of_getElem? (i := 161) (by decide +kernel), List.mem_of_getElem? (i := 636) (by decide +kernel), List.mem_of_getElem? (i := 637) (by decide +kernel)⟩
theorem lw_p15 : lw_okq (⟨"FreightPaths$Rounds", "takeBack", "(LFreightPaths$Bid;)V"⟩, 7) := ⟨⟨by decide +kernel, by decide +kernel⟩, List.mem_of_getElem? (i := 161) (by decide +kernel), List.mem_of_getElem? (i := 640) (by decide +kernel), List.mem_of_getElem? (i := 641) (by decide +kernel)⟩
def lw_privs_1 : List (MethodName × Nat) := [(⟨"java/util/ArrayList", "rangeCheckForAdd", "(I)V"⟩, 3), (⟨"java/util/ArrayList", "grow", "()[Ljava/lang/Object;"⟩, 3), (⟨"java/util/ArrayList", "grow", "(I)[Ljava/lang/Object;"⟩, 3), (⟨"java/util/ArrayList", "add", "(Ljava/lang/Object;[Ljava/lang/Object;I)V"⟩, 3), (⟨"FreightPaths$PathSearch", "clearMinutes", "(LFreightPaths$Bid;)V"⟩, 7), (⟨"FreightPaths$PathSearch", "blockByWorks", "(LFreightPaths$Bid;I)V"⟩, 7), (⟨"FreightPaths$PathSearch", "block", "(II)V"⟩, 7), (⟨"FreightPaths$PathSearch", "blockByOthers", "(LFreightPaths$Bid;I)V"⟩, 7), (⟨"FreightPaths$PathSearch", "countStanding", "(LFreightPaths$Bid;I)V"⟩, 7), (⟨"FreightPaths$PathSearch", "clearComings", "(LFreightPaths$Bid;I)V"⟩, 7), (⟨"FreightPaths$PathSearch", "spreadComings", "(LFreightPaths$Bid;I)V"⟩, 7), (⟨"FreightPaths$PathSearch", "traceBack", "(LFreightPaths$Bid;I)V"⟩, 7), (⟨"FreightPaths$Rounds", "startAnew", "()V"⟩, 7), (⟨"FreightPaths$Rounds", "comeWithPartner", "(LFreightPaths$Bid;)I"⟩, 7), (⟨"FreightPaths$Rounds", "takeBackWithPartner", "(LFreightPaths$Bid;)V"⟩, 7), (⟨"FreightPaths$Rounds", "takeBack", "(LFreightPaths$Bid;)V"⟩, 7)]
theorem lw_r1 : ∀ q ∈ lw_privs_1, lw_okq q := List.forall_mem_cons.mpr ⟨lw_p0, List.forall_mem_cons.mpr ⟨lw_p1, List.forall_mem_cons.mpr ⟨lw_p2, List.forall_mem_cons.mpr ⟨lw_p3, List.forall_mem_cons.mpr ⟨lw_p4, List.forall_mem_cons.mpr ⟨lw_p5, List.forall_mem_cons.mpr ⟨lw_p6, List.forall_mem_cons.mpr ⟨lw_p7, List.forall_mem_cons.mpr ⟨lw_p8, List.forall_mem_cons.mpr ⟨lw_p9, List.forall_mem_cons.mpr ⟨lw_p10, List.forall_mem_cons.mpr ⟨lw_p11, List.forall_mem_cons.mpr ⟨lw_p12, List.forall_mem_cons.mpr ⟨lw_p13, List.forall_mem_cons.mpr ⟨lw_p14, List.forall_mem_cons.mpr ⟨lw_p15, fun _ h => absurd h List.not_mem_nil⟩⟩⟩⟩⟩⟩⟩⟩⟩⟩⟩⟩⟩⟩⟩⟩
theorem lw_p16 : lw_okq (⟨"FreightPaths$Rounds", "keepOrder", "(II)V"⟩, 7) := ⟨⟨by decide +kernel, by decide +kernel⟩, List.mem_of_getElem? (i := 161) (by decide +kernel), List.mem_of_getElem? (i := 644) (by decide +kernel), List.mem_of_getElem? (i := 645) (by decide +kernel)⟩
theorem lw_p17 : lw_okq (⟨"FreightPaths$Breaks", "firstMinute", "(LFreightPaths$Bid;I)I"⟩, 5) := ⟨⟨by decide +kernel, by decide +kernel⟩, List.mem_of_getElem? (i := 189) (by decide +kernel), List.mem_of_getElem? (i := 669) (by decide +kernel), List.mem_of_getElem? (i := 670) (by decide +kernel)⟩
theorem lw_p18 : lw_okq (⟨"FreightPaths$Breaks", "firstClosed", "(LFreightPaths$Bid;)I"⟩, 5) := ⟨⟨by decide +kernel, by decide +kernel⟩, List.mem_of_getElem? (i := 189) (by decide +kernel), List.mem_of_getElem? (i := 673) (by decide +kernel), List.mem_of_getElem? (i := 674) (by decide +kernel)⟩
theorem lw_p19 : lw_okq (⟨"FreightPaths$Breaks", "firstHeld", "(LFreightPaths$Bid;)I"⟩, 5) := ⟨⟨by decide +kernel, by decide +kernel⟩, List.mem_of_getElem? (i := 189) (by decide +kernel), List.mem_of_getElem? (i := 683) (by decide +kernel), List.mem_of_getElem? (i := 684) (by decide +kernel)⟩
theorem lw_p20 : lw_okq (⟨"FreightPaths$Breaks", "isHeldByOther", "(LFreightPaths$Bid;II)Z"⟩, 5) := ⟨⟨by decide +kernel, by decide +kernel⟩, List.mem_of_getElem? (i := 189) (by decide +kernel), List.mem_of_getElem? (i := 687) (by decide +kernel), List.mem_of_getElem? (i := 688) (by decide +kernel)⟩
theorem lw_p21 : lw_okq (⟨"FreightPaths$Breaks", "firstCrowded", "(LFreightPaths$Bid;)I"⟩, 5) := ⟨⟨by decide +kernel, by decide +kernel⟩, List.mem_of_getElem? (i := 189) (by decide +kernel), List.mem_of_getElem? (i := 694) (by decide +kernel), List.mem_of_getElem? (i := 695) (by decide +kernel)⟩
theorem lw_p22 : lw_okq (⟨"FreightPaths$Breaks", "standingAt", "(II)I"⟩, 5) := ⟨⟨by decide +kernel, by decide +kernel⟩, List.mem_of_getElem? (i := 189) (by decide +kernel), List.mem_of_getElem? (i := 699) (by decide +kernel), List.mem_of_getElem? (i := 700) (by decide +kernel)⟩
theorem lw_p23 : lw_okq (⟨"FreightPaths$Run", "reset", "()V"⟩, 11) := ⟨⟨by decide +kernel, by decide +kernel⟩, List.mem_of_getElem? (i := 214) (by decide +kernel), List.mem_of_getElem? (i := 716) (by decide +kernel), List.mem_of_getElem? (i := 717) (by decide +kernel)⟩
theorem lw_p24 : lw_okq (⟨"FreightPaths$Run", "wantsToLeave", "(LFreightPaths$Bid;I)Z"⟩, 11) := ⟨⟨by decide +kernel, by decide +kernel⟩, List.mem_of_getElem? (i := 214) (by decide +kernel), List.mem_of_getElem? (i := 724) (by decide +kernel), List.mem_of_getElem? (i := 725) (by decide +kernel)⟩
theorem lw_p25 : lw_okq (⟨"FreightPaths$Run", "leaveOrPutDown", "(LFreightPaths$Bid;I)V"⟩, 11) := ⟨⟨by decide +kernel, by decide +kernel⟩, List.mem_of_getElem? (i := 214) (by decide +kernel), List.mem_of_getElem? (i := 729) (by decide +kernel), List.mem_of_getElem? (i := 730) (by decide +kernel)⟩
theorem lw_p26 : lw_okq (⟨"FreightPaths$Run", "toOthers", "(I)I"⟩, 11) := ⟨⟨by decide +kernel, by decide +kernel⟩, List.mem_of_getElem? (i := 214) (by decide +kernel), List.mem_of_getElem? (i := 743) (by decide +kernel), List.mem_of_getElem? (i := 744) (by decide +kernel)⟩
theorem lw_p27 : lw_okq (⟨"FreightPathsModel", "isBid", "(I)Z"⟩, 34) := ⟨⟨by decide +kernel, by decide +kernel⟩, List.mem_of_getElem? (i := 766) (by decide +kernel), List.mem_of_getElem? (i := 902) (by decide +kernel), List.mem_of_getElem? (i := 903) (by decide +kernel)⟩
theorem lw_p28 : lw_okq (⟨"FreightPathsModel", "seeks", "(I)Z"⟩, 34) := ⟨⟨by decide +kernel, by decide +kernel⟩, List.mem_of_getElem? (i := 766) (by decide +kernel), List.mem_of_getElem? (i := 910) (by decide +kernel), List.mem_of_getElem? (i := 911) (by decide +kernel)⟩
theorem lw_p29 : lw_okq (⟨"FreightPathsModel", "legs", "(I)I"⟩, 34) := ⟨⟨by decide +kernel, by decide +kernel⟩, List.mem_of_getElem? (i := 766) (by decide +kernel), List.mem_of_getElem? (i := 914) (by decide +kernel), List.mem_of_getElem? (i := 915) (by decide +kernel)⟩
theorem lw_p30 : lw_okq (⟨"FreightPathsModel", "stationOf", "(II)I"⟩, 34) := ⟨⟨by decide +kernel, by decide +kernel⟩, List.mem_of_getElem? (i := 766) (by decide +kernel), List.mem_of_getElem? (i := 918) (by decide +kernel), List.mem_of_getElem? (i := 919) (by decide +kernel)⟩
theorem lw_p31 : lw_okq (⟨"FreightPathsModel", "canStand", "(III)Z"⟩, 34) := ⟨⟨by decide +kernel, by decide +kernel⟩, List.mem_of_getElem? (i := 766) (by decide +kernel), List.mem_of_getElem? (i := 922) (by decide +kernel), List.mem_of_getElem? (i := 923) (by decide +kernel)⟩
def lw_privs_2 : List (MethodName × Nat) := [(⟨"FreightPaths$Rounds", "keepOrder", "(II)V"⟩, 7), (⟨"FreightPaths$Breaks", "firstMinute", "(LFreightPaths$Bid;I)I"⟩, 5), (⟨"FreightPaths$Breaks", "firstClosed", "(LFreightPaths$Bid;)I"⟩, 5), (⟨"FreightPaths$Breaks", "firstHeld", "(LFreightPaths$Bid;)I"⟩, 5), (⟨"FreightPaths$Breaks", "isHeldByOther", "(LFreightPaths$Bid;II)Z"⟩, 5), (⟨"FreightPaths$Breaks", "firstCrowded", "(LFreightPaths$Bid;)I"⟩, 5), (⟨"FreightPaths$Breaks", "standingAt", "(II)I"⟩, 5), (⟨"FreightPaths$Run", "reset", "()V"⟩, 11), (⟨"FreightPaths$Run", "wantsToLeave", "(LFreightPaths$Bid;I)Z"⟩, 11), (⟨"FreightPaths$Run", "leaveOrPutDown", "(LFreightPaths$Bid;I)V"⟩, 11), (⟨"FreightPaths$Run", "toOthers", "(I)I"⟩, 11), (⟨"FreightPathsModel", "isBid", "(I)Z"⟩, 34), (⟨"FreightPathsModel", "seeks", "(I)Z"⟩, 34), (⟨"FreightPathsModel", "legs", "(I)I"⟩, 34), (⟨"FreightPathsModel", "stationOf", "(II)I"⟩, 34), (⟨"FreightPathsModel", "canStand", "(III)Z"⟩, 34)]
theorem lw_r2 : ∀ q ∈ lw_privs_2, lw_okq q := List.forall_mem_cons.mpr ⟨lw_p16, List.forall_mem_cons.mpr ⟨lw_p17, List.forall_mem_cons.mpr ⟨lw_p18, List.forall_mem_cons.mpr ⟨lw_p19, List.forall_mem_cons.mpr ⟨lw_p20, List.forall_mem_cons.mpr ⟨lw_p21, List.forall_mem_cons.mpr ⟨lw_p22, List.forall_mem_cons.mpr ⟨lw_p23, List.forall_mem_cons.mpr ⟨lw_p24, List.forall_mem_cons.mpr ⟨lw_p25, List.forall_mem_cons.mpr ⟨lw_p26, List.forall_mem_cons.mpr ⟨lw_p27, List.forall_mem_cons.mpr ⟨lw_p28, List.forall_mem_cons.mpr ⟨lw_p29, List.forall_mem_cons.mpr ⟨lw_p30, List.forall_mem_cons.mpr ⟨lw_p31, fun _ h => absurd h List.not_mem_nil⟩⟩⟩⟩⟩⟩⟩⟩⟩⟩⟩⟩⟩⟩⟩⟩
theorem lw_p32 : lw_okq (⟨"FreightPathsModel", "isStanding", "(III)Z"⟩, 34) := ⟨⟨by decide +kernel, by decide +kernel⟩, List.mem_of_getElem? (i := 766) (by decide +kernel), List.mem_of_getElem? (i := 926) (by decide +kernel), List.mem_of_getElem? (i := 927) (by decide +kernel)⟩
theorem lw_p33 : lw_okq (⟨"FreightPathsModel", "comesTo", "(II)I"⟩, 34) := ⟨⟨by decide +kernel, by decide +kernel⟩, List.mem_of_getElem? (i := 766) (by decide +kernel), List.mem_of_getElem? (i := 930) (by decide +kernel), List.mem_of_getElem? (i := 931) (by decide +kernel)⟩
theorem lw_p34 : lw_okq (⟨"FreightPathsModel", "longOf", "(II)I"⟩, 34) := ⟨⟨by decide +kernel, by decide +kernel⟩, List.mem_of_getElem? (i := 766) (by decide +kernel), List.mem_of_getElem? (i := 934) (by decide +kernel), List.mem_of_getElem? (i := 935) (by decide +kernel)⟩
theorem lw_p35 : lw_okq (⟨"FreightPathsModel", "sectionOf", "(II)I"⟩, 34) := ⟨⟨by decide +kernel, by decide +kernel⟩, List.mem_of_getElem? (i := 766) (by decide +kernel), List.mem_of_getElem? (i := 938) (by decide +kernel), List.mem_of_getElem? (i := 939) (by decide +kernel)⟩
theorem lw_p36 : lw_okq (⟨"FreightPathsModel", "canLeave", "(III)Z"⟩, 34) := ⟨⟨by decide +kernel, by decide +kernel⟩, List.mem_of_getElem? (i := 766) (by decide +kernel), List.mem_of_getElem? (i := 942) (by decide +kernel), List.mem_of_getElem? (i := 943) (by decide +kernel)⟩
theorem lw_p37 : lw_okq (⟨"FreightPathsModel", "isClosed", "(II)Z"⟩, 34) := ⟨⟨by decide +kernel, by decide +kernel⟩, List.mem_of_getElem? (i := 766) (by decide +kernel), List.mem_of_getElem? (i := 946) (by decide +kernel), List.mem_of_getElem? (i := 947) (by decide +kernel)⟩
theorem lw_p38 : lw_okq (⟨"FreightPathsModel", "isSameWay", "(II)Z"⟩, 34) := ⟨⟨by decide +kernel, by decide +kernel⟩, List.mem_of_getElem? (i := 766) (by decide +kernel), List.mem_of_getElem? (i := 950) (by decide +kernel), List.mem_of_getElem? (i := 951) (by decide +kernel)⟩
theorem lw_p39 : lw_okq (⟨"FreightPathsModel", "legOver", "(II)I"⟩, 34) := ⟨⟨by decide +kernel, by decide +kernel⟩, List.mem_of_getElem? (i := 766) (by decide +kernel), List.mem_of_getElem? (i := 954) (by decide +kernel), List.mem_of_getElem? (i := 955) (by decide +kernel)⟩
theorem lw_p40 : lw_okq (⟨"FreightPathsModel", "areApart", "(IIII)Z"⟩, 34) := ⟨⟨by decide +kernel, by decide +kernel⟩, List.mem_of_getElem? (i := 766) (by decide +kernel), List.mem_of_getElem? (i := 958) (by decide +kernel), List.mem_of_getElem? (i := 959) (by decide +kernel)⟩
theorem lw_p41 : lw_okq (⟨"FreightPathsModel", "behind", "()I"⟩, 34) := ⟨⟨by decide +kernel, by decide +kernel⟩, List.mem_of_getElem? (i := 766) (by decide +kernel), List.mem_of_getElem? (i := 962) (by decide +kernel), List.mem_of_getElem? (i := 963) (by decide +kernel)⟩
theorem lw_p42 : lw_okq (⟨"FreightPathsModel", "ranks", "()V"⟩, 34) := ⟨⟨by decide +kernel, by decide +kernel⟩, List.mem_of_getElem? (i := 766) (by decide +kernel), List.mem_of_getElem? (i := 978) (by decide +kernel), List.mem_of_getElem? (i := 979) (by decide +kernel)⟩
theorem lw_p43 : lw_okq (⟨"FreightPathsModel", "isAhead", "(II)Z"⟩, 34) := ⟨⟨by decide +kernel, by decide +kernel⟩, List.mem_of_getElem? (i := 766) (by decide +kernel), List.mem_of_getElem? (i := 982) (by decide +kernel), List.mem_of_getElem? (i := 983) (by decide +kernel)⟩
theorem lw_p44 : lw_okq (⟨"FreightPathsModel", "goes", "()I"⟩, 34) := ⟨⟨by decide +kernel, by decide +kernel⟩, List.mem_of_getElem? (i := 766) (by decide +kernel), List.mem_of_getElem? (i := 986) (by decide +kernel), List.mem_of_getElem? (i := 987) (by decide +kernel)⟩
theorem lw_p45 : lw_okq (⟨"FreightPathsModel", "orders", "(I)V"⟩, 34) := ⟨⟨by decide +kernel, by decide +kernel⟩, List.mem_of_getElem? (i := 766) (by decide +kernel), List.mem_of_getElem? (i := 999) (by decide +kernel), List.mem_of_getElem? (i := 1000) (by decide +kernel)⟩
theorem lw_p46 : lw_okq (⟨"FreightPathsModel", "breaks", "(III)Z"⟩, 34) := ⟨⟨by decide +kernel, by decide +kernel⟩, List.mem_of_getElem? (i := 766) (by decide +kernel), List.mem_of_getElem? (i := 1011) (by decide +kernel), List.mem_of_getElem? (i := 1012) (by decide +kernel)⟩
theorem lw_p47 : lw_okq (⟨"FreightPathsModel", "isIn", "(III)Z"⟩, 34) := ⟨⟨by decide +kernel, by decide +kernel⟩, List.mem_of_getElem? (i := 766) (by decide +kernel), List.mem_of_getElem? (i := 1015) (by decide +kernel), List.mem_of_getElem? (i := 1016) (by decide +kernel)⟩
def lw_privs_3 : List (MethodName × Nat) := [(⟨"FreightPathsModel", "isStanding", "(III)Z"⟩, 34), (⟨"FreightPathsModel", "comesTo", "(II)I"⟩, 34), (⟨"FreightPathsModel", "longOf", "(II)I"⟩, 34), (⟨"FreightPathsModel", "sectionOf", "(II)I"⟩, 34), (⟨"FreightPathsModel", "canLeave", "(III)Z"⟩, 34), (⟨"FreightPathsModel", "isClosed", "(II)Z"⟩, 34), (⟨"FreightPathsModel", "isSameWay", "(II)Z"⟩, 34), (⟨"FreightPathsModel", "legOver", "(II)I"⟩, 34), (⟨"FreightPathsModel", "areApart", "(IIII)Z"⟩, 34), (⟨"FreightPathsModel", "behind", "()I"⟩, 34), (⟨"FreightPathsModel", "ranks", "()V"⟩, 34), (⟨"FreightPathsModel", "isAhead", "(II)Z"⟩, 34), (⟨"FreightPathsModel", "goes", "()I"⟩, 34), (⟨"FreightPathsModel", "orders", "(I)V"⟩, 34), (⟨"FreightPathsModel", "breaks", "(III)Z"⟩, 34), (⟨"FreightPathsModel", "isIn", "(III)Z"⟩, 34)]
theorem lw_r3 : ∀ q ∈ lw_privs_3, lw_okq q := List.forall_mem_cons.mpr ⟨lw_p32, List.forall_mem_cons.mpr ⟨lw_p33, List.forall_mem_cons.mpr ⟨lw_p34, List.forall_mem_cons.mpr ⟨lw_p35, List.forall_mem_cons.mpr ⟨lw_p36, List.forall_mem_cons.mpr ⟨lw_p37, List.forall_mem_cons.mpr ⟨lw_p38, List.forall_mem_cons.mpr ⟨lw_p39, List.forall_mem_cons.mpr ⟨lw_p40, List.forall_mem_cons.mpr ⟨lw_p41, List.forall_mem_cons.mpr ⟨lw_p42, List.forall_mem_cons.mpr ⟨lw_p43, List.forall_mem_cons.mpr ⟨lw_p44, List.forall_mem_cons.mpr ⟨lw_p45, List.forall_mem_cons.mpr ⟨lw_p46, List.forall_mem_cons.mpr ⟨lw_p47, fun _ h => absurd h List.not_mem_nil⟩⟩⟩⟩⟩⟩⟩⟩⟩⟩⟩⟩⟩⟩⟩⟩
theorem lw_p48 : lw_okq (⟨"FreightPathsModel", "holds", "(III)Z"⟩, 34) := ⟨⟨by decide +kernel, by decide +kernel⟩, List.mem_of_getElem? (i := 766) (by decide +kernel), List.mem_of_getElem? (i := 1019) (by decide +kernel), List.mem_of_getElem? (i := 1020) (by decide +kernel)⟩
theorem lw_p49 : lw_okq (⟨"FreightPathsModel", "runs", "()V"⟩, 34) := ⟨⟨by decide +kernel, by decide +kernel⟩, List.mem_of_getElem? (i := 766) (by decide +kernel), List.mem_of_getElem? (i := 1031) (by decide +kernel), List.mem_of_getElem? (i := 1032) (by decide +kernel)⟩
theorem lw_p50 : lw_okq (⟨"FreightPathsModel", "steps", "(II)V"⟩, 34) := ⟨⟨by decide +kernel, by decide +kernel⟩, List.mem_of_getElem? (i := 766) (by decide +kernel), List.mem_of_getElem? (i := 1035) (by decide +kernel), List.mem_of_getElem? (i := 1036) (by decide +kernel)⟩
theorem lw_p51 : lw_okq (⟨"FreightPathsModel", "holder", "(III)I"⟩, 34) := ⟨⟨by decide +kernel, by decide +kernel⟩, List.mem_of_getElem? (i := 766) (by decide +kernel), List.mem_of_getElem? (i := 1039) (by decide +kernel), List.mem_of_getElem? (i := 1040) (by decide +kernel)⟩
def lw_privs_4 : List (MethodName × Nat) := [(⟨"FreightPathsModel", "holds", "(III)Z"⟩, 34), (⟨"FreightPathsModel", "runs", "()V"⟩, 34), (⟨"FreightPathsModel", "steps", "(II)V"⟩, 34), (⟨"FreightPathsModel", "holder", "(III)I"⟩, 34)]
theorem lw_r4 : ∀ q ∈ lw_privs_4, lw_okq q := List.forall_mem_cons.mpr ⟨lw_p48, List.forall_mem_cons.mpr ⟨lw_p49, List.forall_mem_cons.mpr ⟨lw_p50, List.forall_mem_cons.mpr ⟨lw_p51, fun _ h => absurd h List.not_mem_nil⟩⟩⟩⟩
def lw_privs : List (MethodName × Nat) := lw_privs_1 ++ (lw_privs_2 ++ (lw_privs_3 ++ (lw_privs_4)))
def lw_tbl : List Cond := k2_sels lw_privs ++ tables_1
theorem lw_privs_ok : ∀ q ∈ lw_privs, lw_okq q := by
  show ∀ q ∈ lw_privs_1 ++ (lw_privs_2 ++ (lw_privs_3 ++ (lw_privs_4))), lw_okq q
  exact List.forall_mem_append.mpr ⟨lw_r1, List.forall_mem_append.mpr ⟨lw_r2, List.forall_mem_append.mpr ⟨lw_r3, lw_r4⟩⟩⟩
end
section
def RX0 : String := "FreightPaths$Bid"
def TX0 : u_T := fun k => match k with
  | 0 => ("FreightPaths$Bid", "number", "I", true)
  | 1 => ("FreightPaths$Bid", "house", "I", true)
  | 2 => ("FreightPaths$Bid", "from", "I", true)
  | 3 => ("FreightPaths$Bid", "to", "I", true)
  | 4 => ("FreightPaths$Bid", "kind", "I", true)
  | 5 => ("FreightPaths$Bid", "earliest", "I", true)
  | 6 => ("FreightPaths$Bid", "latest", "I", true)
  | 7 => ("FreightPaths$Bid", "worth", "I", true)
  | 8 => ("FreightPaths$Bid", "rank", "I", true)
  | 9 => ("FreightPaths$Bid", "partner", "I", false)
  | 10 => ("FreightPaths$Bid", "hasPath", "Z", false)
  | 11 => ("FreightPaths$Bid", "leaves", "[I", true)
  | 12 => ("FreightPaths$Bid", "comes", "[I", true)
  | _ => ("FreightPaths$Bid", "delays", "[I", true)
def tyX0 : Nat → FieldType := fun k => match k with
  | 0 => .int
  | 1 => .int
  | 2 => .int
  | 3 => .int
  | 4 => .int
  | 5 => .int
  | 6 => .int
  | 7 => .int
  | 8 => .int
  | 9 => .int
  | 10 => .boolean
  | 11 => .array .int
  | 12 => .array .int
  | _ => .array .int
theorem nmX0 : ∀ a, a < 14 → ∀ b, b < 14 → a ≠ b → (TX0 a).2.1 ≠ (TX0 b).2.1 := by decide +kernel
theorem tyX0_ok : ∀ k, k < 14 → parseFieldDescriptor (TX0 k).2.2.1 = some (tyX0 k) := by decide +kernel
abbrev cX0_init : ByteArray := prog_2_method_1_code
def yX0_init : MethodName := ⟨RX0, "<init>", "(IIIII)V"⟩
abbrev cX0_isWhat : ByteArray := prog_2_method_2_code
def yX0_isWhat : MethodName := ⟨RX0, "isWhat", "(II)Z"⟩
abbrev cX0_isWhen : ByteArray := prog_2_method_3_code
def yX0_isWhen : MethodName := ⟨RX0, "isWhen", "(I)Z"⟩
abbrev cX0_takePath : ByteArray := prog_2_method_4_code
def yX0_takePath : MethodName := ⟨RX0, "takePath", "([I[I)V"⟩
abbrev cX0_steps : ByteArray := prog_2_method_5_code
def yX0_steps : MethodName := ⟨RX0, "steps", "()I"⟩
abbrev cX0_way : ByteArray := prog_2_method_6_code
def yX0_way : MethodName := ⟨RX0, "way", "()I"⟩
abbrev cX0_stationAt : ByteArray := prog_2_method_7_code
def yX0_stationAt : MethodName := ⟨RX0, "stationAt", "(I)I"⟩
abbrev cX0_sectionAt : ByteArray := prog_2_method_8_code
def yX0_sectionAt : MethodName := ⟨RX0, "sectionAt", "(I)I"⟩
abbrev cX0_stepAtStation : ByteArray := prog_2_method_9_code
def yX0_stepAtStation : MethodName := ⟨RX0, "stepAtStation", "(I)I"⟩
abbrev cX0_stepInSection : ByteArray := prog_2_method_10_code
def yX0_stepInSection : MethodName := ⟨RX0, "stepInSection", "(I)I"⟩
def RX1 : String := "FreightPaths$Book"
def TX1 : u_T := fun k => match k with
  | 0 => ("FreightPaths$Book", "bids", "Ljava/util/ArrayList;", true)
  | _ => ("FreightPaths$Book", "byRank", "Ljava/util/ArrayList;", true)
def tyX1 : Nat → FieldType := fun k => match k with
  | 0 => .object "java/util/ArrayList"
  | _ => .object "java/util/ArrayList"
theorem nmX1 : ∀ a, a < 2 → ∀ b, b < 2 → a ≠ b → (TX1 a).2.1 ≠ (TX1 b).2.1 := by decide +kernel
theorem tyX1_ok : ∀ k, k < 2 → parseFieldDescriptor (TX1 k).2.2.1 = some (tyX1 k) := by decide +kernel
abbrev cX1_init : ByteArray := prog_3_method_1_code
def yX1_init : MethodName := ⟨RX1, "<init>", "()V"⟩
abbrev cX1_size : ByteArray := prog_3_method_2_code
def yX1_size : MethodName := ⟨RX1, "size", "()I"⟩
abbrev cX1_at : ByteArray := prog_3_method_3_code
def yX1_at : MethodName := ⟨RX1, "at", "(I)LFreightPaths$Bid;"⟩
abbrev cX1_add : ByteArray := prog_3_method_4_code
def yX1_add : MethodName := ⟨RX1, "add", "(LFreightPaths$Bid;)V"⟩
abbrev cX1_dropAll : ByteArray := prog_3_method_5_code
def yX1_dropAll : MethodName := ⟨RX1, "dropAll", "()V"⟩
abbrev cX1_pathsGiven : ByteArray := prog_3_method_6_code
def yX1_pathsGiven : MethodName := ⟨RX1, "pathsGiven", "()I"⟩
abbrev cX1_worthsGiven : ByteArray := prog_3_method_7_code
def yX1_worthsGiven : MethodName := ⟨RX1, "worthsGiven", "()I"⟩
def RX2 : String := "FreightPaths$Breaks"
def TX2 : u_T := fun k => match k with
  | 0 => ("FreightPaths$Breaks", "line", "LFreightPaths$Line;", true)
  | 1 => ("FreightPaths$Breaks", "book", "LFreightPaths$Book;", true)
  | 2 => ("FreightPaths$Breaks", "bidNumber", "I", false)
  | 3 => ("FreightPaths$Breaks", "rule", "I", false)
  | _ => ("FreightPaths$Breaks", "minute", "I", false)
def tyX2 : Nat → FieldType := fun k => match k with
  | 0 => .object "FreightPaths$Line"
  | 1 => .object "FreightPaths$Book"
  | 2 => .int
  | 3 => .int
  | _ => .int
theorem nmX2 : ∀ a, a < 5 → ∀ b, b < 5 → a ≠ b → (TX2 a).2.1 ≠ (TX2 b).2.1 := by decide +kernel
theorem tyX2_ok : ∀ k, k < 5 → parseFieldDescriptor (TX2 k).2.2.1 = some (tyX2 k) := by decide +kernel
abbrev cX2_init : ByteArray := prog_4_method_1_code
def yX2_init : MethodName := ⟨RX2, "<init>", "(LFreightPaths$Line;LFreightPaths$Book;)V"⟩
abbrev cX2_seekFirst : ByteArray := prog_4_method_2_code
def yX2_seekFirst : MethodName := ⟨RX2, "seekFirst", "()Z"⟩
abbrev cX2_firstMinute : ByteArray := prog_4_method_3_code
def yX2_firstMinute : MethodName := ⟨RX2, "firstMinute", "(LFreightPaths$Bid;I)I"⟩
abbrev cX2_firstClosed : ByteArray := prog_4_method_4_code
def yX2_firstClosed : MethodName := ⟨RX2, "firstClosed", "(LFreightPaths$Bid;)I"⟩
abbrev cX2_firstHeld : ByteArray := prog_4_method_5_code
def yX2_firstHeld : MethodName := ⟨RX2, "firstHeld", "(LFreightPaths$Bid;)I"⟩
abbrev cX2_isHeldByOther : ByteArray := prog_4_method_6_code
def yX2_isHeldByOther : MethodName := ⟨RX2, "isHeldByOther", "(LFreightPaths$Bid;II)Z"⟩
abbrev cX2_firstCrowded : ByteArray := prog_4_method_7_code
def yX2_firstCrowded : MethodName := ⟨RX2, "firstCrowded", "(LFreightPaths$Bid;)I"⟩
abbrev cX2_standingAt : ByteArray := prog_4_method_8_code
def yX2_standingAt : MethodName := ⟨RX2, "standingAt", "(II)I"⟩
def RX3 : String := "FreightPaths$Line"
def TX3 : u_T := fun k => match k with
  | 0 => ("FreightPaths$Line", "stations", "I", true)
  | 1 => ("FreightPaths$Line", "isDouble", "[Z", true)
  | 2 => ("FreightPaths$Line", "fastMinutes", "[I", true)
  | 3 => ("FreightPaths$Line", "slowMinutes", "[I", true)
  | 4 => ("FreightPaths$Line", "tracksAt", "[I", true)
  | 5 => ("FreightPaths$Line", "worksSection", "[I", true)
  | 6 => ("FreightPaths$Line", "worksFrom", "[I", true)
  | 7 => ("FreightPaths$Line", "worksTo", "[I", true)
  | 8 => ("FreightPaths$Line", "worksCame", "I", false)
  | _ => ("FreightPaths$Line", "headwayMinutes", "I", false)
def tyX3 : Nat → FieldType := fun k => match k with
  | 0 => .int
  | 1 => .array .boolean
  | 2 => .array .int
  | 3 => .array .int
  | 4 => .array .int
  | 5 => .array .int
  | 6 => .array .int
  | 7 => .array .int
  | 8 => .int
  | _ => .int
theorem nmX3 : ∀ a, a < 10 → ∀ b, b < 10 → a ≠ b → (TX3 a).2.1 ≠ (TX3 b).2.1 := by decide +kernel
theorem tyX3_ok : ∀ k, k < 10 → parseFieldDescriptor (TX3 k).2.2.1 = some (tyX3 k) := by decide +kernel
abbrev cX3_init : ByteArray := prog_5_method_1_code
def yX3_init : MethodName := ⟨RX3, "<init>", "(I)V"⟩
abbrev cX3_hasStation : ByteArray := prog_5_method_2_code
def yX3_hasStation : MethodName := ⟨RX3, "hasStation", "(I)Z"⟩
abbrev cX3_hasSection : ByteArray := prog_5_method_3_code
def yX3_hasSection : MethodName := ⟨RX3, "hasSection", "(I)Z"⟩
abbrev cX3_setSection : ByteArray := prog_5_method_4_code
def yX3_setSection : MethodName := ⟨RX3, "setSection", "(IZII)V"⟩
abbrev cX3_addWorks : ByteArray := prog_5_method_5_code
def yX3_addWorks : MethodName := ⟨RX3, "addWorks", "(III)V"⟩
abbrev cX3_isClosed : ByteArray := prog_5_method_6_code
def yX3_isClosed : MethodName := ⟨RX3, "isClosed", "(II)Z"⟩
abbrev cX3_holdBehind : ByteArray := prog_5_method_7_code
def yX3_holdBehind : MethodName := ⟨RX3, "holdBehind", "()I"⟩
abbrev cX3_isShared : ByteArray := prog_5_method_8_code
def yX3_isShared : MethodName := ⟨RX3, "isShared", "(ILFreightPaths$Bid;LFreightPaths$Bid;)Z"⟩
abbrev cX3_lengthOf : ByteArray := prog_5_method_9_code
def yX3_lengthOf : MethodName := ⟨RX3, "lengthOf", "(LFreightPaths$Bid;I)I"⟩
def RX4 : String := "FreightPaths$PathSearch"
def TX4 : u_T := fun k => match k with
  | 0 => ("FreightPaths$PathSearch", "line", "LFreightPaths$Line;", true)
  | 1 => ("FreightPaths$PathSearch", "book", "LFreightPaths$Book;", true)
  | 2 => ("FreightPaths$PathSearch", "canCome", "[Z", true)
  | 3 => ("FreightPaths$PathSearch", "isBlocked", "[Z", true)
  | 4 => ("FreightPaths$PathSearch", "standing", "[I", true)
  | 5 => ("FreightPaths$PathSearch", "leaves", "[I", true)
  | _ => ("FreightPaths$PathSearch", "comes", "[I", true)
def tyX4 : Nat → FieldType := fun k => match k with
  | 0 => .object "FreightPaths$Line"
  | 1 => .object "FreightPaths$Book"
  | 2 => .array .boolean
  | 3 => .array .boolean
  | 4 => .array .int
  | 5 => .array .int
  | _ => .array .int
theorem nmX4 : ∀ a, a < 7 → ∀ b, b < 7 → a ≠ b → (TX4 a).2.1 ≠ (TX4 b).2.1 := by decide +kernel
theorem tyX4_ok : ∀ k, k < 7 → parseFieldDescriptor (TX4 k).2.2.1 = some (tyX4 k) := by decide +kernel
abbrev cX4_init : ByteArray := prog_6_method_1_code
def yX4_init : MethodName := ⟨RX4, "<init>", "(LFreightPaths$Line;LFreightPaths$Book;)V"⟩
abbrev cX4_endFor : ByteArray := prog_6_method_2_code
def yX4_endFor : MethodName := ⟨RX4, "endFor", "(LFreightPaths$Bid;)I"⟩
abbrev cX4_clearComings : ByteArray := prog_6_method_3_code
def yX4_clearComings : MethodName := ⟨RX4, "clearComings", "(LFreightPaths$Bid;I)V"⟩
abbrev cX4_clearMinutes : ByteArray := prog_6_method_4_code
def yX4_clearMinutes : MethodName := ⟨RX4, "clearMinutes", "(LFreightPaths$Bid;)V"⟩
abbrev cX4_blockByWorks : ByteArray := prog_6_method_5_code
def yX4_blockByWorks : MethodName := ⟨RX4, "blockByWorks", "(LFreightPaths$Bid;I)V"⟩
abbrev cX4_blockByOthers : ByteArray := prog_6_method_6_code
def yX4_blockByOthers : MethodName := ⟨RX4, "blockByOthers", "(LFreightPaths$Bid;I)V"⟩
abbrev cX4_block : ByteArray := prog_6_method_7_code
def yX4_block : MethodName := ⟨RX4, "block", "(II)V"⟩
abbrev cX4_countStanding : ByteArray := prog_6_method_8_code
def yX4_countStanding : MethodName := ⟨RX4, "countStanding", "(LFreightPaths$Bid;I)V"⟩
abbrev cX4_spreadComings : ByteArray := prog_6_method_9_code
def yX4_spreadComings : MethodName := ⟨RX4, "spreadComings", "(LFreightPaths$Bid;I)V"⟩
abbrev cX4_traceBack : ByteArray := prog_6_method_10_code
def yX4_traceBack : MethodName := ⟨RX4, "traceBack", "(LFreightPaths$Bid;I)V"⟩
def RX5 : String := "FreightPaths$Rounds"
def TX5 : u_T := fun k => match k with
  | 0 => ("FreightPaths$Rounds", "book", "LFreightPaths$Book;", true)
  | 1 => ("FreightPaths$Rounds", "search", "LFreightPaths$PathSearch;", true)
  | 2 => ("FreightPaths$Rounds", "hasCome", "[Z", true)
  | 3 => ("FreightPaths$Rounds", "order", "[I", true)
  | 4 => ("FreightPaths$Rounds", "bestOrder", "[I", true)
  | 5 => ("FreightPaths$Rounds", "bestLength", "I", false)
  | _ => ("FreightPaths$Rounds", "bestWorth", "I", false)
def tyX5 : Nat → FieldType := fun k => match k with
  | 0 => .object "FreightPaths$Book"
  | 1 => .object "FreightPaths$PathSearch"
  | 2 => .array .boolean
  | 3 => .array .int
  | 4 => .array .int
  | 5 => .int
  | _ => .int
theorem nmX5 : ∀ a, a < 7 → ∀ b, b < 7 → a ≠ b → (TX5 a).2.1 ≠ (TX5 b).2.1 := by decide +kernel
theorem tyX5_ok : ∀ k, k < 7 → parseFieldDescriptor (TX5 k).2.2.1 = some (tyX5 k) := by decide +kernel
abbrev cX5_init : ByteArray := prog_7_method_1_code
def yX5_init : MethodName := ⟨RX5, "<init>", "(LFreightPaths$Book;LFreightPaths$PathSearch;)V"⟩
abbrev cX5_comeByRank : ByteArray := prog_7_method_2_code
def yX5_comeByRank : MethodName := ⟨RX5, "comeByRank", "()V"⟩
abbrev cX5_comeByBestOrder : ByteArray := prog_7_method_3_code
def yX5_comeByBestOrder : MethodName := ⟨RX5, "comeByBestOrder", "()V"⟩
abbrev cX5_tryOrders : ByteArray := prog_7_method_4_code
def yX5_tryOrders : MethodName := ⟨RX5, "tryOrders", "(LFreightPaths$Rounds;II)V"⟩
abbrev cX5_keepOrder : ByteArray := prog_7_method_5_code
def yX5_keepOrder : MethodName := ⟨RX5, "keepOrder", "(II)V"⟩
abbrev cX5_startAnew : ByteArray := prog_7_method_6_code
def yX5_startAnew : MethodName := ⟨RX5, "startAnew", "()V"⟩
abbrev cX5_comeWithPartner : ByteArray := prog_7_method_7_code
def yX5_comeWithPartner : MethodName := ⟨RX5, "comeWithPartner", "(LFreightPaths$Bid;)I"⟩
abbrev cX5_takeBackWithPartner : ByteArray := prog_7_method_8_code
def yX5_takeBackWithPartner : MethodName := ⟨RX5, "takeBackWithPartner", "(LFreightPaths$Bid;)V"⟩
abbrev cX5_takeBack : ByteArray := prog_7_method_9_code
def yX5_takeBack : MethodName := ⟨RX5, "takeBack", "(LFreightPaths$Bid;)V"⟩
def RX6 : String := "FreightPaths$Run"
def TX6 : u_T := fun k => match k with
  | 0 => ("FreightPaths$Run", "line", "LFreightPaths$Line;", true)
  | 1 => ("FreightPaths$Run", "book", "LFreightPaths$Book;", true)
  | 2 => ("FreightPaths$Run", "isUpToDate", "Z", false)
  | 3 => ("FreightPaths$Run", "stepOf", "[I", true)
  | 4 => ("FreightPaths$Run", "thereFrom", "[I", true)
  | 5 => ("FreightPaths$Run", "delayLeft", "[I", true)
  | 6 => ("FreightPaths$Run", "toSelf", "[I", true)
  | 7 => ("FreightPaths$Run", "toNone", "[I", true)
  | 8 => ("FreightPaths$Run", "toOther", "[I", true)
  | 9 => ("FreightPaths$Run", "holder", "[I", true)
  | _ => ("FreightPaths$Run", "heldTill", "[I", true)
def tyX6 : Nat → FieldType := fun k => match k with
  | 0 => .object "FreightPaths$Line"
  | 1 => .object "FreightPaths$Book"
  | 2 => .boolean
  | 3 => .array .int
  | 4 => .array .int
  | 5 => .array .int
  | 6 => .array .int
  | 7 => .array .int
  | 8 => .array .int
  | 9 => .array .int
  | _ => .array .int
theorem nmX6 : ∀ a, a < 11 → ∀ b, b < 11 → a ≠ b → (TX6 a).2.1 ≠ (TX6 b).2.1 := by decide +kernel
theorem tyX6_ok : ∀ k, k < 11 → parseFieldDescriptor (TX6 k).2.2.1 = some (tyX6 k) := by decide +kernel
abbrev cX6_init : ByteArray := prog_8_method_1_code
def yX6_init : MethodName := ⟨RX6, "<init>", "(LFreightPaths$Line;LFreightPaths$Book;)V"⟩
abbrev cX6_forget : ByteArray := prog_8_method_2_code
def yX6_forget : MethodName := ⟨RX6, "forget", "()V"⟩
abbrev cX6_bringUpToDate : ByteArray := prog_8_method_3_code
def yX6_bringUpToDate : MethodName := ⟨RX6, "bringUpToDate", "()V"⟩
abbrev cX6_reset : ByteArray := prog_8_method_4_code
def yX6_reset : MethodName := ⟨RX6, "reset", "()V"⟩
abbrev cX6_wantsToLeave : ByteArray := prog_8_method_5_code
def yX6_wantsToLeave : MethodName := ⟨RX6, "wantsToLeave", "(LFreightPaths$Bid;I)Z"⟩
abbrev cX6_leaveOrPutDown : ByteArray := prog_8_method_6_code
def yX6_leaveOrPutDown : MethodName := ⟨RX6, "leaveOrPutDown", "(LFreightPaths$Bid;I)V"⟩
abbrev cX6_told : ByteArray := prog_8_method_7_code
def yX6_told : MethodName := ⟨RX6, "told", "(LFreightPaths$Bid;I)I"⟩
abbrev cX6_toOthers : ByteArray := prog_8_method_8_code
def yX6_toOthers : MethodName := ⟨RX6, "toOthers", "(I)I"⟩
abbrev cX6_coinsOf : ByteArray := prog_8_method_9_code
def yX6_coinsOf : MethodName := ⟨RX6, "coinsOf", "(I)I"⟩
def RX7 : String := "FreightPaths"
def TX7 : u_T := fun k => match k with
  | 0 => ("FreightPaths", "line", "LFreightPaths$Line;", true)
  | 1 => ("FreightPaths", "book", "LFreightPaths$Book;", true)
  | 2 => ("FreightPaths", "search", "LFreightPaths$PathSearch;", true)
  | 3 => ("FreightPaths", "rounds", "LFreightPaths$Rounds;", true)
  | 4 => ("FreightPaths", "breaks", "LFreightPaths$Breaks;", true)
  | _ => ("FreightPaths", "run", "LFreightPaths$Run;", true)
def tyX7 : Nat → FieldType := fun k => match k with
  | 0 => .object "FreightPaths$Line"
  | 1 => .object "FreightPaths$Book"
  | 2 => .object "FreightPaths$PathSearch"
  | 3 => .object "FreightPaths$Rounds"
  | 4 => .object "FreightPaths$Breaks"
  | _ => .object "FreightPaths$Run"
theorem nmX7 : ∀ a, a < 6 → ∀ b, b < 6 → a ≠ b → (TX7 a).2.1 ≠ (TX7 b).2.1 := by decide +kernel
theorem tyX7_ok : ∀ k, k < 6 → parseFieldDescriptor (TX7 k).2.2.1 = some (tyX7 k) := by decide +kernel
abbrev cX7_init : ByteArray := prog_1_method_1_code
def yX7_init : MethodName := ⟨RX7, "<init>", "(I)V"⟩
abbrev cX7_section : ByteArray := prog_1_method_2_code
def yX7_section : MethodName := ⟨RX7, "section", "(IZII)Z"⟩
abbrev cX7_tracks : ByteArray := prog_1_method_3_code
def yX7_tracks : MethodName := ⟨RX7, "tracks", "(II)Z"⟩
abbrev cX7_headway : ByteArray := prog_1_method_4_code
def yX7_headway : MethodName := ⟨RX7, "headway", "(I)Z"⟩
abbrev cX7_works : ByteArray := prog_1_method_5_code
def yX7_works : MethodName := ⟨RX7, "works", "(III)Z"⟩
abbrev cX7_bid : ByteArray := prog_1_method_6_code
def yX7_bid : MethodName := ⟨RX7, "bid", "(IIII)I"⟩
abbrev cX7_link : ByteArray := prog_1_method_7_code
def yX7_link : MethodName := ⟨RX7, "link", "(II)Z"⟩
abbrev cX7_find : ByteArray := prog_1_method_8_code
def yX7_find : MethodName := ⟨RX7, "find", "(I)I"⟩
abbrev cX7_give : ByteArray := prog_1_method_9_code
def yX7_give : MethodName := ⟨RX7, "give", "(I)Z"⟩
abbrev cX7_drop : ByteArray := prog_1_method_10_code
def yX7_drop : MethodName := ⟨RX7, "drop", "(I)Z"⟩
abbrev cX7_round : ByteArray := prog_1_method_11_code
def yX7_round : MethodName := ⟨RX7, "round", "()I"⟩
abbrev cX7_best : ByteArray := prog_1_method_12_code
def yX7_best : MethodName := ⟨RX7, "best", "()I"⟩
abbrev cX7_path : ByteArray := prog_1_method_13_code
def yX7_path : MethodName := ⟨RX7, "path", "(II)I"⟩
abbrev cX7_why : ByteArray := prog_1_method_14_code
def yX7_why : MethodName := ⟨RX7, "why", "(I)I"⟩
abbrev cX7_delay : ByteArray := prog_1_method_15_code
def yX7_delay : MethodName := ⟨RX7, "delay", "(III)Z"⟩
abbrev cX7_ran : ByteArray := prog_1_method_16_code
def yX7_ran : MethodName := ⟨RX7, "ran", "(II)I"⟩
abbrev cX7_blame : ByteArray := prog_1_method_17_code
def yX7_blame : MethodName := ⟨RX7, "blame", "(II)I"⟩
abbrev cX7_balance : ByteArray := prog_1_method_18_code
def yX7_balance : MethodName := ⟨RX7, "balance", "(I)I"⟩
abbrev cX7_count : ByteArray := prog_1_method_19_code
def yX7_count : MethodName := ⟨RX7, "count", "(I)I"⟩
abbrev cX7_isWithin : ByteArray := prog_1_method_20_code
def yX7_isWithin : MethodName := ⟨RX7, "isWithin", "(III)Z"⟩
def RX8 : String := "FreightPathsModel"
def TX8 : u_T := fun k => match k with
  | 0 => ("FreightPathsModel", "stations", "I", true)
  | 1 => ("FreightPathsModel", "isDouble", "[Z", true)
  | 2 => ("FreightPathsModel", "minutes", "[I", true)
  | 3 => ("FreightPathsModel", "tracks", "[I", true)
  | 4 => ("FreightPathsModel", "headway", "I", false)
  | 5 => ("FreightPathsModel", "works", "I", false)
  | 6 => ("FreightPathsModel", "workAt", "[I", true)
  | 7 => ("FreightPathsModel", "workFrom", "[I", true)
  | 8 => ("FreightPathsModel", "workTo", "[I", true)
  | 9 => ("FreightPathsModel", "bids", "I", false)
  | 10 => ("FreightPathsModel", "house", "[I", true)
  | 11 => ("FreightPathsModel", "from", "[I", true)
  | 12 => ("FreightPathsModel", "to", "[I", true)
  | 13 => ("FreightPathsModel", "kind", "[I", true)
  | 14 => ("FreightPathsModel", "earliest", "[I", true)
  | 15 => ("FreightPathsModel", "latest", "[I", true)
  | 16 => ("FreightPathsModel", "worth", "[I", true)
  | 17 => ("FreightPathsModel", "rank", "[I", true)
  | 18 => ("FreightPathsModel", "linked", "[I", true)
  | 19 => ("FreightPathsModel", "isGiven", "[Z", true)
  | 20 => ("FreightPathsModel", "leaves", "[I", true)
  | 21 => ("FreightPathsModel", "delays", "[I", true)
  | 22 => ("FreightPathsModel", "comes", "[Z", true)
  | 23 => ("FreightPathsModel", "found", "[I", true)
  | 24 => ("FreightPathsModel", "order", "[I", true)
  | 25 => ("FreightPathsModel", "isAsked", "[Z", true)
  | 26 => ("FreightPathsModel", "leg", "[I", true)
  | 27 => ("FreightPathsModel", "until", "[I", true)
  | 28 => ("FreightPathsModel", "came", "[I", true)
  | 29 => ("FreightPathsModel", "left", "[I", true)
  | 30 => ("FreightPathsModel", "wentIn", "[I", true)
  | 31 => ("FreightPathsModel", "own", "[I", true)
  | 32 => ("FreightPathsModel", "nobody", "[I", true)
  | _ => ("FreightPathsModel", "blamed", "[I", true)
def tyX8 : Nat → FieldType := fun k => match k with
  | 0 => .int
  | 1 => .array .boolean
  | 2 => .array .int
  | 3 => .array .int
  | 4 => .int
  | 5 => .int
  | 6 => .array .int
  | 7 => .array .int
  | 8 => .array .int
  | 9 => .int
  | 10 => .array .int
  | 11 => .array .int
  | 12 => .array .int
  | 13 => .array .int
  | 14 => .array .int
  | 15 => .array .int
  | 16 => .array .int
  | 17 => .array .int
  | 18 => .array .int
  | 19 => .array .boolean
  | 20 => .array .int
  | 21 => .array .int
  | 22 => .array .boolean
  | 23 => .array .int
  | 24 => .array .int
  | 25 => .array .boolean
  | 26 => .array .int
  | 27 => .array .int
  | 28 => .array .int
  | 29 => .array .int
  | 30 => .array .int
  | 31 => .array .int
  | 32 => .array .int
  | _ => .array .int
theorem nmX8 : ∀ a, a < 34 → ∀ b, b < 34 → a ≠ b → (TX8 a).2.1 ≠ (TX8 b).2.1 := by decide +kernel
theorem tyX8_ok : ∀ k, k < 34 → parseFieldDescriptor (TX8 k).2.2.1 = some (tyX8 k) := by decide +kernel
abbrev cX8_init : ByteArray := prog_10_method_1_code
def yX8_init : MethodName := ⟨RX8, "<init>", "(I)V"⟩
abbrev cX8_in : ByteArray := prog_10_method_2_code
def yX8_in : MethodName := ⟨RX8, "in", "(III)Z"⟩
abbrev cX8_isBid : ByteArray := prog_10_method_3_code
def yX8_isBid : MethodName := ⟨RX8, "isBid", "(I)Z"⟩
abbrev cX8_section : ByteArray := prog_10_method_4_code
def yX8_section : MethodName := ⟨RX8, "section", "(IZII)Z"⟩
abbrev cX8_tracks : ByteArray := prog_10_method_5_code
def yX8_tracks : MethodName := ⟨RX8, "tracks", "(II)Z"⟩
abbrev cX8_headway : ByteArray := prog_10_method_6_code
def yX8_headway : MethodName := ⟨RX8, "headway", "(I)Z"⟩
abbrev cX8_works : ByteArray := prog_10_method_7_code
def yX8_works : MethodName := ⟨RX8, "works", "(III)Z"⟩
abbrev cX8_bid : ByteArray := prog_10_method_8_code
def yX8_bid : MethodName := ⟨RX8, "bid", "(IIII)I"⟩
abbrev cX8_link : ByteArray := prog_10_method_9_code
def yX8_link : MethodName := ⟨RX8, "link", "(II)Z"⟩
abbrev cX8_legs : ByteArray := prog_10_method_10_code
def yX8_legs : MethodName := ⟨RX8, "legs", "(I)I"⟩
abbrev cX8_stationOf : ByteArray := prog_10_method_11_code
def yX8_stationOf : MethodName := ⟨RX8, "stationOf", "(II)I"⟩
abbrev cX8_sectionOf : ByteArray := prog_10_method_12_code
def yX8_sectionOf : MethodName := ⟨RX8, "sectionOf", "(II)I"⟩
abbrev cX8_longOf : ByteArray := prog_10_method_13_code
def yX8_longOf : MethodName := ⟨RX8, "longOf", "(II)I"⟩
abbrev cX8_legOver : ByteArray := prog_10_method_14_code
def yX8_legOver : MethodName := ⟨RX8, "legOver", "(II)I"⟩
abbrev cX8_isSameWay : ByteArray := prog_10_method_15_code
def yX8_isSameWay : MethodName := ⟨RX8, "isSameWay", "(II)Z"⟩
abbrev cX8_isClosed : ByteArray := prog_10_method_16_code
def yX8_isClosed : MethodName := ⟨RX8, "isClosed", "(II)Z"⟩
abbrev cX8_behind : ByteArray := prog_10_method_17_code
def yX8_behind : MethodName := ⟨RX8, "behind", "()I"⟩
abbrev cX8_areApart : ByteArray := prog_10_method_18_code
def yX8_areApart : MethodName := ⟨RX8, "areApart", "(IIII)Z"⟩
abbrev cX8_canLeave : ByteArray := prog_10_method_19_code
def yX8_canLeave : MethodName := ⟨RX8, "canLeave", "(III)Z"⟩
abbrev cX8_comesTo : ByteArray := prog_10_method_20_code
def yX8_comesTo : MethodName := ⟨RX8, "comesTo", "(II)I"⟩
abbrev cX8_isStanding : ByteArray := prog_10_method_21_code
def yX8_isStanding : MethodName := ⟨RX8, "isStanding", "(III)Z"⟩
abbrev cX8_canStand : ByteArray := prog_10_method_22_code
def yX8_canStand : MethodName := ⟨RX8, "canStand", "(III)Z"⟩
abbrev cX8_seeks : ByteArray := prog_10_method_23_code
def yX8_seeks : MethodName := ⟨RX8, "seeks", "(I)Z"⟩
abbrev cX8_find : ByteArray := prog_10_method_24_code
def yX8_find : MethodName := ⟨RX8, "find", "(I)I"⟩
abbrev cX8_give : ByteArray := prog_10_method_25_code
def yX8_give : MethodName := ⟨RX8, "give", "(I)Z"⟩
abbrev cX8_drop : ByteArray := prog_10_method_26_code
def yX8_drop : MethodName := ⟨RX8, "drop", "(I)Z"⟩
abbrev cX8_isAhead : ByteArray := prog_10_method_27_code
def yX8_isAhead : MethodName := ⟨RX8, "isAhead", "(II)Z"⟩
abbrev cX8_ranks : ByteArray := prog_10_method_28_code
def yX8_ranks : MethodName := ⟨RX8, "ranks", "()V"⟩
abbrev cX8_goes : ByteArray := prog_10_method_29_code
def yX8_goes : MethodName := ⟨RX8, "goes", "()I"⟩
abbrev cX8_round : ByteArray := prog_10_method_30_code
def yX8_round : MethodName := ⟨RX8, "round", "()I"⟩
abbrev cX8_best : ByteArray := prog_10_method_31_code
def yX8_best : MethodName := ⟨RX8, "best", "()I"⟩
abbrev cX8_orders : ByteArray := prog_10_method_32_code
def yX8_orders : MethodName := ⟨RX8, "orders", "(I)V"⟩
abbrev cX8_path : ByteArray := prog_10_method_33_code
def yX8_path : MethodName := ⟨RX8, "path", "(II)I"⟩
abbrev cX8_isIn : ByteArray := prog_10_method_34_code
def yX8_isIn : MethodName := ⟨RX8, "isIn", "(III)Z"⟩
abbrev cX8_holds : ByteArray := prog_10_method_35_code
def yX8_holds : MethodName := ⟨RX8, "holds", "(III)Z"⟩
abbrev cX8_breaks : ByteArray := prog_10_method_36_code
def yX8_breaks : MethodName := ⟨RX8, "breaks", "(III)Z"⟩
abbrev cX8_why : ByteArray := prog_10_method_37_code
def yX8_why : MethodName := ⟨RX8, "why", "(I)I"⟩
abbrev cX8_delay : ByteArray := prog_10_method_38_code
def yX8_delay : MethodName := ⟨RX8, "delay", "(III)Z"⟩
abbrev cX8_runs : ByteArray := prog_10_method_39_code
def yX8_runs : MethodName := ⟨RX8, "runs", "()V"⟩
abbrev cX8_holder : ByteArray := prog_10_method_40_code
def yX8_holder : MethodName := ⟨RX8, "holder", "(III)I"⟩
abbrev cX8_steps : ByteArray := prog_10_method_41_code
def yX8_steps : MethodName := ⟨RX8, "steps", "(II)V"⟩
abbrev cX8_ran : ByteArray := prog_10_method_42_code
def yX8_ran : MethodName := ⟨RX8, "ran", "(II)I"⟩
abbrev cX8_blame : ByteArray := prog_10_method_43_code
def yX8_blame : MethodName := ⟨RX8, "blame", "(II)I"⟩
abbrev cX8_balance : ByteArray := prog_10_method_44_code
def yX8_balance : MethodName := ⟨RX8, "balance", "(I)I"⟩
abbrev cX8_count : ByteArray := prog_10_method_45_code
def yX8_count : MethodName := ⟨RX8, "count", "(I)I"⟩
def RJx145de : String := "java/io/Serializable"
def TJx145de : u_T := fun k => match k with
  | _ => ("", "", "", false)
def tyJx145de : Nat → FieldType := fun k => match k with
  | _ => .int
theorem nmJx145de : ∀ a, a < 0 → ∀ b, b < 0 → a ≠ b → (TJx145de a).2.1 ≠ (TJx145de b).2.1 := by decide +kernel
theorem tyJx145de_ok : ∀ k, k < 0 → parseFieldDescriptor (TJx145de k).2.2.1 = some (tyJx145de k) := by decide +kernel
def RJx8e188 : String := "java/lang/Cloneable"
def TJx8e188 : u_T := fun k => match k with
  | _ => ("", "", "", false)
def tyJx8e188 : Nat → FieldType := fun k => match k with
  | _ => .int
theorem nmJx8e188 : ∀ a, a < 0 → ∀ b, b < 0 → a ≠ b → (TJx8e188 a).2.1 ≠ (TJx8e188 b).2.1 := by decide +kernel
theorem tyJx8e188_ok : ∀ k, k < 0 → parseFieldDescriptor (TJx8e188 k).2.2.1 = some (tyJx8e188 k) := by decide +kernel
def RJxab1ab : String := "java/lang/Iterable"
def TJxab1ab : u_T := fun k => match k with
  | _ => ("", "", "", false)
def tyJxab1ab : Nat → FieldType := fun k => match k with
  | _ => .int
theorem nmJxab1ab : ∀ a, a < 0 → ∀ b, b < 0 → a ≠ b → (TJxab1ab a).2.1 ≠ (TJxab1ab b).2.1 := by decide +kernel
theorem tyJxab1ab_ok : ∀ k, k < 0 → parseFieldDescriptor (TJxab1ab k).2.2.1 = some (tyJxab1ab k) := by decide +kernel
def RJ9 : String := "java/lang/Math"
def TJ9 : u_T := fun k => match k with
  | _ => ("", "", "", false)
def tyJ9 : Nat → FieldType := fun k => match k with
  | _ => .int
theorem nmJ9 : ∀ a, a < 0 → ∀ b, b < 0 → a ≠ b → (TJ9 a).2.1 ≠ (TJ9 b).2.1 := by decide +kernel
theorem tyJ9_ok : ∀ k, k < 0 → parseFieldDescriptor (TJ9 k).2.2.1 = some (tyJ9 k) := by decide +kernel
abbrev cJ9_max_7cf53 : ByteArray := prog_14_method_65_code
def yJ9_max_7cf53 : MethodName := ⟨RJ9, "max", "(II)I"⟩
abbrev cJ9_min_7cf53 : ByteArray := prog_14_method_69_code
def yJ9_min_7cf53 : MethodName := ⟨RJ9, "min", "(II)I"⟩
def RJ10 : String := "java/lang/System"
def TJ10 : u_T := fun k => match k with
  | _ => ("", "", "", false)
def tyJ10 : Nat → FieldType := fun k => match k with
  | _ => .int
theorem nmJ10 : ∀ a, a < 0 → ∀ b, b < 0 → a ≠ b → (TJ10 a).2.1 ≠ (TJ10 b).2.1 := by decide +kernel
theorem tyJ10_ok : ∀ k, k < 0 → parseFieldDescriptor (TJ10 k).2.2.1 = some (tyJ10 k) := by decide +kernel
def RJxa1e45 : String := "java/util/AbstractCollection"
def TJxa1e45 : u_T := fun k => match k with
  | _ => ("", "", "", false)
def tyJxa1e45 : Nat → FieldType := fun k => match k with
  | _ => .int
theorem nmJxa1e45 : ∀ a, a < 0 → ∀ b, b < 0 → a ≠ b → (TJxa1e45 a).2.1 ≠ (TJxa1e45 b).2.1 := by decide +kernel
theorem tyJxa1e45_ok : ∀ k, k < 0 → parseFieldDescriptor (TJxa1e45 k).2.2.1 = some (tyJxa1e45 k) := by decide +kernel
abbrev cJxa1e45_init_da8c8 : ByteArray := prog_16_method_1_code
def yJxa1e45_init_da8c8 : MethodName := ⟨RJxa1e45, "<init>", "()V"⟩
def RJxc12de : String := "java/util/AbstractList"
def TJxc12de : u_T := fun k => match k with
  | _ => ("", "", "", false)
def tyJxc12de : Nat → FieldType := fun k => match k with
  | _ => .int
theorem nmJxc12de : ∀ a, a < 0 → ∀ b, b < 0 → a ≠ b → (TJxc12de a).2.1 ≠ (TJxc12de b).2.1 := by decide +kernel
theorem tyJxc12de_ok : ∀ k, k < 0 → parseFieldDescriptor (TJxc12de k).2.2.1 = some (tyJxc12de k) := by decide +kernel
abbrev cJxc12de_init_da8c8 : ByteArray := prog_17_method_1_code
def yJxc12de_init_da8c8 : MethodName := ⟨RJxc12de, "<init>", "()V"⟩
def RJx4a65c : String := "java/util/ArrayList"
def TJx4a65c : u_T := fun k => match k with
  | 0 => ("java/util/AbstractList", "modCount", "I", false)
  | 1 => ("java/util/ArrayList", "elementData", "[Ljava/lang/Object;", false)
  | _ => ("java/util/ArrayList", "size", "I", false)
def tyJx4a65c : Nat → FieldType := fun k => match k with
  | 0 => .int
  | 1 => .array (.object "java/lang/Object")
  | _ => .int
theorem nmJx4a65c : ∀ a, a < 3 → ∀ b, b < 3 → a ≠ b → (TJx4a65c a).2.1 ≠ (TJx4a65c b).2.1 := by decide +kernel
theorem tyJx4a65c_ok : ∀ k, k < 3 → parseFieldDescriptor (TJx4a65c k).2.2.1 = some (tyJx4a65c k) := by decide +kernel
abbrev cJx4a65c_init_da8c8 : ByteArray := prog_18_method_2_code
def yJx4a65c_init_da8c8 : MethodName := ⟨RJx4a65c, "<init>", "()V"⟩
abbrev cJx4a65c_grow_92f84 : ByteArray := prog_18_method_6_code
def yJx4a65c_grow_92f84 : MethodName := ⟨RJx4a65c, "grow", "(I)[Ljava/lang/Object;"⟩
abbrev cJx4a65c_grow_d5877 : ByteArray := prog_18_method_7_code
def yJx4a65c_grow_d5877 : MethodName := ⟨RJx4a65c, "grow", "()[Ljava/lang/Object;"⟩
abbrev cJx4a65c_size_8abf5 : ByteArray := prog_18_method_8_code
def yJx4a65c_size_8abf5 : MethodName := ⟨RJx4a65c, "size", "()I"⟩
abbrev cJx4a65c_elementData_915e3 : ByteArray := prog_18_method_18_code
def yJx4a65c_elementData_915e3 : MethodName := ⟨RJx4a65c, "elementData", "(I)Ljava/lang/Object;"⟩
abbrev cJx4a65c_get_915e3 : ByteArray := prog_18_method_20_code
def yJx4a65c_get_915e3 : MethodName := ⟨RJx4a65c, "get", "(I)Ljava/lang/Object;"⟩
abbrev cJx4a65c_add_72be8 : ByteArray := prog_18_method_24_code
def yJx4a65c_add_72be8 : MethodName := ⟨RJx4a65c, "add", "(Ljava/lang/Object;[Ljava/lang/Object;I)V"⟩
abbrev cJx4a65c_add_9ea2d : ByteArray := prog_18_method_25_code
def yJx4a65c_add_9ea2d : MethodName := ⟨RJx4a65c, "add", "(Ljava/lang/Object;)Z"⟩
abbrev cJx4a65c_add_7a177 : ByteArray := prog_18_method_26_code
def yJx4a65c_add_7a177 : MethodName := ⟨RJx4a65c, "add", "(ILjava/lang/Object;)V"⟩
abbrev cJx4a65c_rangeCheckForAdd_d00df : ByteArray := prog_18_method_45_code
def yJx4a65c_rangeCheckForAdd_d00df : MethodName := ⟨RJx4a65c, "rangeCheckForAdd", "(I)V"⟩
def RJ7 : String := "java/util/Arrays"
def TJ7 : u_T := fun k => match k with
  | _ => ("", "", "", false)
def tyJ7 : Nat → FieldType := fun k => match k with
  | _ => .int
theorem nmJ7 : ∀ a, a < 0 → ∀ b, b < 0 → a ≠ b → (TJ7 a).2.1 ≠ (TJ7 b).2.1 := by decide +kernel
theorem tyJ7_ok : ∀ k, k < 0 → parseFieldDescriptor (TJ7 k).2.2.1 = some (tyJ7 k) := by decide +kernel
abbrev cJ7_copyOf_1904c : ByteArray := prog_19_method_119_code
def yJ7_copyOf_1904c : MethodName := ⟨RJ7, "copyOf", "([Ljava/lang/Object;I)[Ljava/lang/Object;"⟩
abbrev cJ7_copyOf_6403c : ByteArray := prog_19_method_120_code
def yJ7_copyOf_6403c : MethodName := ⟨RJ7, "copyOf", "([Ljava/lang/Object;ILjava/lang/Class;)[Ljava/lang/Object;"⟩
def RJx5ef63 : String := "java/util/Collection"
def TJx5ef63 : u_T := fun k => match k with
  | _ => ("", "", "", false)
def tyJx5ef63 : Nat → FieldType := fun k => match k with
  | _ => .int
theorem nmJx5ef63 : ∀ a, a < 0 → ∀ b, b < 0 → a ≠ b → (TJx5ef63 a).2.1 ≠ (TJx5ef63 b).2.1 := by decide +kernel
theorem tyJx5ef63_ok : ∀ k, k < 0 → parseFieldDescriptor (TJx5ef63 k).2.2.1 = some (tyJx5ef63 k) := by decide +kernel
def RJxbd725 : String := "java/util/List"
def TJxbd725 : u_T := fun k => match k with
  | _ => ("", "", "", false)
def tyJxbd725 : Nat → FieldType := fun k => match k with
  | _ => .int
theorem nmJxbd725 : ∀ a, a < 0 → ∀ b, b < 0 → a ≠ b → (TJxbd725 a).2.1 ≠ (TJxbd725 b).2.1 := by decide +kernel
theorem tyJxbd725_ok : ∀ k, k < 0 → parseFieldDescriptor (TJxbd725 k).2.2.1 = some (tyJxbd725 k) := by decide +kernel
def RJ15 : String := "java/util/Objects"
def TJ15 : u_T := fun k => match k with
  | _ => ("", "", "", false)
def tyJ15 : Nat → FieldType := fun k => match k with
  | _ => .int
theorem nmJ15 : ∀ a, a < 0 → ∀ b, b < 0 → a ≠ b → (TJ15 a).2.1 ≠ (TJ15 b).2.1 := by decide +kernel
theorem tyJ15_ok : ∀ k, k < 0 → parseFieldDescriptor (TJ15 k).2.2.1 = some (tyJ15 k) := by decide +kernel
abbrev cJ15_checkIndex_7cf53 : ByteArray := prog_22_method_17_code
def yJ15_checkIndex_7cf53 : MethodName := ⟨RJ15, "checkIndex", "(II)I"⟩
def RJxf0a74 : String := "java/util/RandomAccess"
def TJxf0a74 : u_T := fun k => match k with
  | _ => ("", "", "", false)
def tyJxf0a74 : Nat → FieldType := fun k => match k with
  | _ => .int
theorem nmJxf0a74 : ∀ a, a < 0 → ∀ b, b < 0 → a ≠ b → (TJxf0a74 a).2.1 ≠ (TJxf0a74 b).2.1 := by decide +kernel
theorem tyJxf0a74_ok : ∀ k, k < 0 → parseFieldDescriptor (TJxf0a74 k).2.2.1 = some (tyJxf0a74 k) := by decide +kernel
def RJxa66e6 : String := "java/util/SequencedCollection"
def TJxa66e6 : u_T := fun k => match k with
  | _ => ("", "", "", false)
def tyJxa66e6 : Nat → FieldType := fun k => match k with
  | _ => .int
theorem nmJxa66e6 : ∀ a, a < 0 → ∀ b, b < 0 → a ≠ b → (TJxa66e6 a).2.1 ≠ (TJxa66e6 b).2.1 := by decide +kernel
theorem tyJxa66e6_ok : ∀ k, k < 0 → parseFieldDescriptor (TJxa66e6 k).2.2.1 = some (tyJxa66e6 k) := by decide +kernel
def RJ8 : String := "jdk/internal/util/ArraysSupport"
def TJ8 : u_T := fun k => match k with
  | _ => ("", "", "", false)
def tyJ8 : Nat → FieldType := fun k => match k with
  | _ => .int
theorem nmJ8 : ∀ a, a < 0 → ∀ b, b < 0 → a ≠ b → (TJ8 a).2.1 ≠ (TJ8 b).2.1 := by decide +kernel
theorem tyJ8_ok : ∀ k, k < 0 → parseFieldDescriptor (TJ8 k).2.2.1 = some (tyJ8 k) := by decide +kernel
abbrev cJ8_newLength_cabcc : ByteArray := prog_25_method_27_code
def yJ8_newLength_cabcc : MethodName := ⟨RJ8, "newLength", "(III)I"⟩
abbrev cJ8_hugeLength_7cf53 : ByteArray := prog_25_method_28_code
def yJ8_hugeLength_7cf53 : MethodName := ⟨RJ8, "hugeLength", "(II)I"⟩
def RJ3 : String := "jdk/internal/util/Preconditions"
def TJ3 : u_T := fun k => match k with
  | _ => ("", "", "", false)
def tyJ3 : Nat → FieldType := fun k => match k with
  | _ => .int
theorem nmJ3 : ∀ a, a < 0 → ∀ b, b < 0 → a ≠ b → (TJ3 a).2.1 ≠ (TJ3 b).2.1 := by decide +kernel
theorem tyJ3_ok : ∀ k, k < 0 → parseFieldDescriptor (TJ3 k).2.2.1 = some (tyJ3 k) := by decide +kernel
abbrev cJ3_checkIndex_8e157 : ByteArray := prog_26_method_11_code
def yJ3_checkIndex_8e157 : MethodName := ⟨RJ3, "checkIndex", "(IILjava/util/function/BiFunction;)I"⟩
def RL : String := "FreightPathsLaw"
abbrev cL_cell : ByteArray := method_2_code
def yL_cell : MethodName := ⟨RL, "cell", "([II)I"⟩
abbrev cL_law : ByteArray := code
def yL_law : MethodName := ⟨RL, "law", "([I)Z"⟩
abbrev vwCl : List vw_C := [(RJx4a65c, TJx4a65c, 3), (RX0, TX0, 14), (RX1, TX1, 2), (RX2, TX2, 5), (RX3, TX3, 10), (RX4, TX4, 7), (RX5, TX5, 7), (RX6, TX6, 11), (RX7, TX7, 6), (RX8, TX8, 34)]
end
section
theorem dX0_init_0 : decode cX0_init 0 = .ok (.aload_n 0, 1) := by decide +kernel
theorem dX0_init_1 : decode cX0_init 1 = .ok (.invokespecial 3, 3) := by decide +kernel
theorem dX0_init_4 : decode cX0_init 4 = .ok (.aload_n 0, 1) := by decide +kernel
theorem dX0_init_5 : decode cX0_init 5 = .ok (.iconst (-1), 1) := by decide +kernel
theorem dX0_init_6 : decode cX0_init 6 = .ok (.putfield 9, 3) := by decide +kernel
theorem dX0_init_9 : decode cX0_init 9 = .ok (.aload_n 0, 1) := by decide +kernel
theorem dX0_init_10 : decode cX0_init 10 = .ok (.bipush 8, 2) := by decide +kernel
theorem dX0_init_12 : decode cX0_init 12 = .ok (.newarray .int, 2) := by decide +kernel
theorem dX0_init_14 : decode cX0_init 14 = .ok (.putfield 15, 3) := by decide +kernel
theorem dX0_init_17 : decode cX0_init 17 = .ok (.aload_n 0, 1) := by decide +kernel
theorem dX0_init_18 : decode cX0_init 18 = .ok (.bipush 8, 2) := by decide +kernel
theorem dX0_init_20 : decode cX0_init 20 = .ok (.newarray .int, 2) := by decide +kernel
theorem dX0_init_22 : decode cX0_init 22 = .ok (.putfield 19, 3) := by decide +kernel
theorem dX0_init_25 : decode cX0_init 25 = .ok (.aload_n 0, 1) := by decide +kernel
theorem dX0_init_26 : decode cX0_init 26 = .ok (.bipush 8, 2) := by decide +kernel
theorem dX0_init_28 : decode cX0_init 28 = .ok (.newarray .int, 2) := by decide +kernel
theorem dX0_init_30 : decode cX0_init 30 = .ok (.putfield 22, 3) := by decide +kernel
theorem dX0_init_33 : decode cX0_init 33 = .ok (.aload_n 0, 1) := by decide +kernel
theorem dX0_init_34 : decode cX0_init 34 = .ok (.iload_n 1, 1) := by decide +kernel
theorem dX0_init_35 : decode cX0_init 35 = .ok (.putfield 25, 3) := by decide +kernel
theorem dX0_init_38 : decode cX0_init 38 = .ok (.aload_n 0, 1) := by decide +kernel
theorem dX0_init_39 : decode cX0_init 39 = .ok (.iload_n 2, 1) := by decide +kernel
theorem dX0_init_40 : decode cX0_init 40 = .ok (.sipush 10000, 3) := by decide +kernel
theorem dX0_init_43 : decode cX0_init 43 = .ok (.idiv, 1) := by decide +kernel
theorem dX0_init_44 : decode cX0_init 44 = .ok (.putfield 28, 3) := by decide +kernel
theorem dX0_init_47 : decode cX0_init 47 = .ok (.aload_n 0, 1) := by decide +kernel
theorem dX0_init_48 : decode cX0_init 48 = .ok (.iload_n 2, 1) := by decide +kernel
theorem dX0_init_49 : decode cX0_init 49 = .ok (.sipush 1000, 3) := by decide +kernel
theorem dX0_init_52 : decode cX0_init 52 = .ok (.idiv, 1) := by decide +kernel
theorem dX0_init_53 : decode cX0_init 53 = .ok (.bipush 10, 2) := by decide +kernel
theorem dX0_init_55 : decode cX0_init 55 = .ok (.irem, 1) := by decide +kernel
theorem dX0_init_56 : decode cX0_init 56 = .ok (.putfield 31, 3) := by decide +kernel
theorem dX0_init_59 : decode cX0_init 59 = .ok (.aload_n 0, 1) := by decide +kernel
theorem dX0_init_60 : decode cX0_init 60 = .ok (.iload_n 2, 1) := by decide +kernel
theorem dX0_init_61 : decode cX0_init 61 = .ok (.bipush 100, 2) := by decide +kernel
theorem dX0_init_63 : decode cX0_init 63 = .ok (.idiv, 1) := by decide +kernel
theorem dX0_init_64 : decode cX0_init 64 = .ok (.bipush 10, 2) := by decide +kernel
theorem dX0_init_66 : decode cX0_init 66 = .ok (.irem, 1) := by decide +kernel
theorem dX0_init_67 : decode cX0_init 67 = .ok (.putfield 34, 3) := by decide +kernel
theorem dX0_init_70 : decode cX0_init 70 = .ok (.aload_n 0, 1) := by decide +kernel
theorem dX0_init_71 : decode cX0_init 71 = .ok (.iload_n 2, 1) := by decide +kernel
theorem dX0_init_72 : decode cX0_init 72 = .ok (.bipush 10, 2) := by decide +kernel
theorem dX0_init_74 : decode cX0_init 74 = .ok (.idiv, 1) := by decide +kernel
theorem dX0_init_75 : decode cX0_init 75 = .ok (.bipush 10, 2) := by decide +kernel
theorem dX0_init_77 : decode cX0_init 77 = .ok (.irem, 1) := by decide +kernel
theorem dX0_init_78 : decode cX0_init 78 = .ok (.putfield 37, 3) := by decide +kernel
theorem dX0_init_81 : decode cX0_init 81 = .ok (.aload_n 0, 1) := by decide +kernel
theorem dX0_init_82 : decode cX0_init 82 = .ok (.iload_n 3, 1) := by decide +kernel
theorem dX0_init_83 : decode cX0_init 83 = .ok (.sipush 1000, 3) := by decide +kernel
theorem dX0_init_86 : decode cX0_init 86 = .ok (.idiv, 1) := by decide +kernel
theorem dX0_init_87 : decode cX0_init 87 = .ok (.putfield 40, 3) := by decide +kernel
theorem dX0_init_90 : decode cX0_init 90 = .ok (.aload_n 0, 1) := by decide +kernel
theorem dX0_init_91 : decode cX0_init 91 = .ok (.iload_n 3, 1) := by decide +kernel
theorem dX0_init_92 : decode cX0_init 92 = .ok (.sipush 1000, 3) := by decide +kernel
theorem dX0_init_95 : decode cX0_init 95 = .ok (.irem, 1) := by decide +kernel
theorem dX0_init_96 : decode cX0_init 96 = .ok (.putfield 43, 3) := by decide +kernel
theorem dX0_init_99 : decode cX0_init 99 = .ok (.aload_n 0, 1) := by decide +kernel
theorem dX0_init_100 : decode cX0_init 100 = .ok (.iload 4, 2) := by decide +kernel
theorem dX0_init_102 : decode cX0_init 102 = .ok (.putfield 46, 3) := by decide +kernel
theorem dX0_init_105 : decode cX0_init 105 = .ok (.aload_n 0, 1) := by decide +kernel
theorem dX0_init_106 : decode cX0_init 106 = .ok (.iload 5, 2) := by decide +kernel
theorem dX0_init_108 : decode cX0_init 108 = .ok (.putfield 49, 3) := by decide +kernel
theorem dX0_init_111 : decode cX0_init 111 = .ok (.return_, 1) := by decide +kernel
theorem dX0_isWhat_0 : decode cX0_isWhat 0 = .ok (.iload_n 0, 1) := by decide +kernel
theorem dX0_isWhat_1 : decode cX0_isWhat 1 = .ok (.ifCond .lt 31, 3) := by decide +kernel
theorem dX0_isWhat_4 : decode cX0_isWhat 4 = .ok (.iload_n 0, 1) := by decide +kernel
theorem dX0_isWhat_5 : decode cX0_isWhat 5 = .ok (.sipush 10000, 3) := by decide +kernel
theorem dX0_isWhat_8 : decode cX0_isWhat 8 = .ok (.idiv, 1) := by decide +kernel
theorem dX0_isWhat_9 : decode cX0_isWhat 9 = .ok (.bipush 6, 2) := by decide +kernel
theorem dX0_isWhat_11 : decode cX0_isWhat 11 = .ok (.if_icmp .ge 21, 3) := by decide +kernel
theorem dX0_isWhat_14 : decode cX0_isWhat 14 = .ok (.iload_n 0, 1) := by decide +kernel
theorem dX0_isWhat_15 : decode cX0_isWhat 15 = .ok (.bipush 10, 2) := by decide +kernel
theorem dX0_isWhat_17 : decode cX0_isWhat 17 = .ok (.idiv, 1) := by decide +kernel
theorem dX0_isWhat_18 : decode cX0_isWhat 18 = .ok (.bipush 10, 2) := by decide +kernel
theorem dX0_isWhat_20 : decode cX0_isWhat 20 = .ok (.irem, 1) := by decide +kernel
theorem dX0_isWhat_21 : decode cX0_isWhat 21 = .ok (.iconst 2, 1) := by decide +kernel
theorem dX0_isWhat_22 : decode cX0_isWhat 22 = .ok (.if_icmp .ge 10, 3) := by decide +kernel
theorem dX0_isWhat_25 : decode cX0_isWhat 25 = .ok (.iload_n 0, 1) := by decide +kernel
theorem dX0_isWhat_26 : decode cX0_isWhat 26 = .ok (.bipush 10, 2) := by decide +kernel
theorem dX0_isWhat_28 : decode cX0_isWhat 28 = .ok (.irem, 1) := by decide +kernel
theorem dX0_isWhat_29 : decode cX0_isWhat 29 = .ok (.ifCond .eq 5, 3) := by decide +kernel
theorem dX0_isWhat_32 : decode cX0_isWhat 32 = .ok (.iconst 0, 1) := by decide +kernel
theorem dX0_isWhat_33 : decode cX0_isWhat 33 = .ok (.ireturn, 1) := by decide +kernel
theorem dX0_isWhat_34 : decode cX0_isWhat 34 = .ok (.iload_n 0, 1) := by decide +kernel
theorem dX0_isWhat_35 : decode cX0_isWhat 35 = .ok (.sipush 1000, 3) := by decide +kernel
theorem dX0_isWhat_38 : decode cX0_isWhat 38 = .ok (.idiv, 1) := by decide +kernel
theorem dX0_isWhat_39 : decode cX0_isWhat 39 = .ok (.bipush 10, 2) := by decide +kernel
theorem dX0_isWhat_41 : decode cX0_isWhat 41 = .ok (.irem, 1) := by decide +kernel
theorem dX0_isWhat_42 : decode cX0_isWhat 42 = .ok (.istore_n 2, 1) := by decide +kernel
theorem dX0_isWhat_43 : decode cX0_isWhat 43 = .ok (.iload_n 0, 1) := by decide +kernel
theorem dX0_isWhat_44 : decode cX0_isWhat 44 = .ok (.bipush 100, 2) := by decide +kernel
theorem dX0_isWhat_46 : decode cX0_isWhat 46 = .ok (.idiv, 1) := by decide +kernel
theorem dX0_isWhat_47 : decode cX0_isWhat 47 = .ok (.bipush 10, 2) := by decide +kernel
theorem dX0_isWhat_49 : decode cX0_isWhat 49 = .ok (.irem, 1) := by decide +kernel
theorem dX0_isWhat_50 : decode cX0_isWhat 50 = .ok (.istore_n 3, 1) := by decide +kernel
theorem dX0_isWhat_51 : decode cX0_isWhat 51 = .ok (.iload_n 2, 1) := by decide +kernel
theorem dX0_isWhat_52 : decode cX0_isWhat 52 = .ok (.iload_n 1, 1) := by decide +kernel
theorem dX0_isWhat_53 : decode cX0_isWhat 53 = .ok (.if_icmp .ge 17, 3) := by decide +kernel
theorem dX0_isWhat_56 : decode cX0_isWhat 56 = .ok (.iload_n 3, 1) := by decide +kernel
theorem dX0_isWhat_57 : decode cX0_isWhat 57 = .ok (.iload_n 1, 1) := by decide +kernel
theorem dX0_isWhat_58 : decode cX0_isWhat 58 = .ok (.if_icmp .ge 12, 3) := by decide +kernel
theorem dX0_isWhat_61 : decode cX0_isWhat 61 = .ok (.iload_n 2, 1) := by decide +kernel
theorem dX0_isWhat_62 : decode cX0_isWhat 62 = .ok (.iload_n 3, 1) := by decide +kernel
theorem dX0_isWhat_63 : decode cX0_isWhat 63 = .ok (.if_icmp .eq 7, 3) := by decide +kernel
theorem dX0_isWhat_66 : decode cX0_isWhat 66 = .ok (.iconst 1, 1) := by decide +kernel
theorem dX0_isWhat_67 : decode cX0_isWhat 67 = .ok (.goto 4, 3) := by decide +kernel
theorem dX0_isWhat_70 : decode cX0_isWhat 70 = .ok (.iconst 0, 1) := by decide +kernel
theorem dX0_isWhat_71 : decode cX0_isWhat 71 = .ok (.ireturn, 1) := by decide +kernel
theorem dX0_isWhen_0 : decode cX0_isWhen 0 = .ok (.iload_n 0, 1) := by decide +kernel
theorem dX0_isWhen_1 : decode cX0_isWhen 1 = .ok (.ifCond .lt 29, 3) := by decide +kernel
theorem dX0_isWhen_4 : decode cX0_isWhen 4 = .ok (.iload_n 0, 1) := by decide +kernel
theorem dX0_isWhen_5 : decode cX0_isWhen 5 = .ok (.sipush 1000, 3) := by decide +kernel
theorem dX0_isWhen_8 : decode cX0_isWhen 8 = .ok (.idiv, 1) := by decide +kernel
theorem dX0_isWhen_9 : decode cX0_isWhen 9 = .ok (.sipush 240, 3) := by decide +kernel
theorem dX0_isWhen_12 : decode cX0_isWhen 12 = .ok (.if_icmp .ge 18, 3) := by decide +kernel
theorem dX0_isWhen_15 : decode cX0_isWhen 15 = .ok (.iload_n 0, 1) := by decide +kernel
theorem dX0_isWhen_16 : decode cX0_isWhen 16 = .ok (.sipush 1000, 3) := by decide +kernel
theorem dX0_isWhen_19 : decode cX0_isWhen 19 = .ok (.irem, 1) := by decide +kernel
theorem dX0_isWhen_20 : decode cX0_isWhen 20 = .ok (.sipush 240, 3) := by decide +kernel
theorem dX0_isWhen_23 : decode cX0_isWhen 23 = .ok (.if_icmp .ge 7, 3) := by decide +kernel
theorem dX0_isWhen_26 : decode cX0_isWhen 26 = .ok (.iconst 1, 1) := by decide +kernel
theorem dX0_isWhen_27 : decode cX0_isWhen 27 = .ok (.goto 4, 3) := by decide +kernel
theorem dX0_isWhen_30 : decode cX0_isWhen 30 = .ok (.iconst 0, 1) := by decide +kernel
theorem dX0_isWhen_31 : decode cX0_isWhen 31 = .ok (.ireturn, 1) := by decide +kernel
theorem dX0_takePath_0 : decode cX0_takePath 0 = .ok (.iconst 0, 1) := by decide +kernel
theorem dX0_takePath_1 : decode cX0_takePath 1 = .ok (.istore_n 3, 1) := by decide +kernel
theorem dX0_takePath_2 : decode cX0_takePath 2 = .ok (.iload_n 3, 1) := by decide +kernel
theorem dX0_takePath_3 : decode cX0_takePath 3 = .ok (.bipush 8, 2) := by decide +kernel
theorem dX0_takePath_5 : decode cX0_takePath 5 = .ok (.if_icmp .ge 27, 3) := by decide +kernel
theorem dX0_takePath_8 : decode cX0_takePath 8 = .ok (.aload_n 0, 1) := by decide +kernel
theorem dX0_takePath_9 : decode cX0_takePath 9 = .ok (.getfield 15, 3) := by decide +kernel
theorem dX0_takePath_12 : decode cX0_takePath 12 = .ok (.iload_n 3, 1) := by decide +kernel
theorem dX0_takePath_13 : decode cX0_takePath 13 = .ok (.aload_n 1, 1) := by decide +kernel
theorem dX0_takePath_14 : decode cX0_takePath 14 = .ok (.iload_n 3, 1) := by decide +kernel
theorem dX0_takePath_15 : decode cX0_takePath 15 = .ok (.iaload, 1) := by decide +kernel
theorem dX0_takePath_16 : decode cX0_takePath 16 = .ok (.iastore, 1) := by decide +kernel
theorem dX0_takePath_17 : decode cX0_takePath 17 = .ok (.aload_n 0, 1) := by decide +kernel
theorem dX0_takePath_18 : decode cX0_takePath 18 = .ok (.getfield 19, 3) := by decide +kernel
theorem dX0_takePath_21 : decode cX0_takePath 21 = .ok (.iload_n 3, 1) := by decide +kernel
theorem dX0_takePath_22 : decode cX0_takePath 22 = .ok (.aload_n 2, 1) := by decide +kernel
theorem dX0_takePath_23 : decode cX0_takePath 23 = .ok (.iload_n 3, 1) := by decide +kernel
theorem dX0_takePath_24 : decode cX0_takePath 24 = .ok (.iaload, 1) := by decide +kernel
theorem dX0_takePath_25 : decode cX0_takePath 25 = .ok (.iastore, 1) := by decide +kernel
theorem dX0_takePath_26 : decode cX0_takePath 26 = .ok (.iinc 3 1, 3) := by decide +kernel
theorem dX0_takePath_29 : decode cX0_takePath 29 = .ok (.goto (-27), 3) := by decide +kernel
theorem dX0_takePath_32 : decode cX0_takePath 32 = .ok (.aload_n 0, 1) := by decide +kernel
theorem dX0_takePath_33 : decode cX0_takePath 33 = .ok (.iconst 1, 1) := by decide +kernel
theorem dX0_takePath_34 : decode cX0_takePath 34 = .ok (.putfield 52, 3) := by decide +kernel
theorem dX0_takePath_37 : decode cX0_takePath 37 = .ok (.return_, 1) := by decide +kernel
theorem dX0_steps_0 : decode cX0_steps 0 = .ok (.aload_n 0, 1) := by decide +kernel
theorem dX0_steps_1 : decode cX0_steps 1 = .ok (.getfield 34, 3) := by decide +kernel
theorem dX0_steps_4 : decode cX0_steps 4 = .ok (.aload_n 0, 1) := by decide +kernel
theorem dX0_steps_5 : decode cX0_steps 5 = .ok (.getfield 31, 3) := by decide +kernel
theorem dX0_steps_8 : decode cX0_steps 8 = .ok (.if_icmp .le 15, 3) := by decide +kernel
theorem dX0_steps_11 : decode cX0_steps 11 = .ok (.aload_n 0, 1) := by decide +kernel
theorem dX0_steps_12 : decode cX0_steps 12 = .ok (.getfield 34, 3) := by decide +kernel
theorem dX0_steps_15 : decode cX0_steps 15 = .ok (.aload_n 0, 1) := by decide +kernel
theorem dX0_steps_16 : decode cX0_steps 16 = .ok (.getfield 31, 3) := by decide +kernel
theorem dX0_steps_19 : decode cX0_steps 19 = .ok (.isub, 1) := by decide +kernel
theorem dX0_steps_20 : decode cX0_steps 20 = .ok (.goto 12, 3) := by decide +kernel
theorem dX0_steps_23 : decode cX0_steps 23 = .ok (.aload_n 0, 1) := by decide +kernel
theorem dX0_steps_24 : decode cX0_steps 24 = .ok (.getfield 31, 3) := by decide +kernel
theorem dX0_steps_27 : decode cX0_steps 27 = .ok (.aload_n 0, 1) := by decide +kernel
theorem dX0_steps_28 : decode cX0_steps 28 = .ok (.getfield 34, 3) := by decide +kernel
theorem dX0_steps_31 : decode cX0_steps 31 = .ok (.isub, 1) := by decide +kernel
theorem dX0_steps_32 : decode cX0_steps 32 = .ok (.ireturn, 1) := by decide +kernel
theorem dX0_way_0 : decode cX0_way 0 = .ok (.aload_n 0, 1) := by decide +kernel
theorem dX0_way_1 : decode cX0_way 1 = .ok (.getfield 34, 3) := by decide +kernel
theorem dX0_way_4 : decode cX0_way 4 = .ok (.aload_n 0, 1) := by decide +kernel
theorem dX0_way_5 : decode cX0_way 5 = .ok (.getfield 31, 3) := by decide +kernel
theorem dX0_way_8 : decode cX0_way 8 = .ok (.if_icmp .le 7, 3) := by decide +kernel
theorem dX0_way_11 : decode cX0_way 11 = .ok (.iconst 1, 1) := by decide +kernel
theorem dX0_way_12 : decode cX0_way 12 = .ok (.goto 4, 3) := by decide +kernel
theorem dX0_way_15 : decode cX0_way 15 = .ok (.iconst (-1), 1) := by decide +kernel
theorem dX0_way_16 : decode cX0_way 16 = .ok (.ireturn, 1) := by decide +kernel
theorem dX0_stationAt_0 : decode cX0_stationAt 0 = .ok (.aload_n 0, 1) := by decide +kernel
theorem dX0_stationAt_1 : decode cX0_stationAt 1 = .ok (.getfield 31, 3) := by decide +kernel
theorem dX0_stationAt_4 : decode cX0_stationAt 4 = .ok (.aload_n 0, 1) := by decide +kernel
theorem dX0_stationAt_5 : decode cX0_stationAt 5 = .ok (.invokevirtual 56, 3) := by decide +kernel
theorem dX0_stationAt_8 : decode cX0_stationAt 8 = .ok (.iload_n 1, 1) := by decide +kernel
theorem dX0_stationAt_9 : decode cX0_stationAt 9 = .ok (.imul, 1) := by decide +kernel
theorem dX0_stationAt_10 : decode cX0_stationAt 10 = .ok (.iadd, 1) := by decide +kernel
theorem dX0_stationAt_11 : decode cX0_stationAt 11 = .ok (.ireturn, 1) := by decide +kernel
theorem dX0_sectionAt_0 : decode cX0_sectionAt 0 = .ok (.aload_n 0, 1) := by decide +kernel
theorem dX0_sectionAt_1 : decode cX0_sectionAt 1 = .ok (.getfield 34, 3) := by decide +kernel
theorem dX0_sectionAt_4 : decode cX0_sectionAt 4 = .ok (.aload_n 0, 1) := by decide +kernel
theorem dX0_sectionAt_5 : decode cX0_sectionAt 5 = .ok (.getfield 31, 3) := by decide +kernel
theorem dX0_sectionAt_8 : decode cX0_sectionAt 8 = .ok (.if_icmp .le 12, 3) := by decide +kernel
theorem dX0_sectionAt_11 : decode cX0_sectionAt 11 = .ok (.aload_n 0, 1) := by decide +kernel
theorem dX0_sectionAt_12 : decode cX0_sectionAt 12 = .ok (.getfield 31, 3) := by decide +kernel
theorem dX0_sectionAt_15 : decode cX0_sectionAt 15 = .ok (.iload_n 1, 1) := by decide +kernel
theorem dX0_sectionAt_16 : decode cX0_sectionAt 16 = .ok (.iadd, 1) := by decide +kernel
theorem dX0_sectionAt_17 : decode cX0_sectionAt 17 = .ok (.goto 11, 3) := by decide +kernel
theorem dX0_sectionAt_20 : decode cX0_sectionAt 20 = .ok (.aload_n 0, 1) := by decide +kernel
theorem dX0_sectionAt_21 : decode cX0_sectionAt 21 = .ok (.getfield 31, 3) := by decide +kernel
theorem dX0_sectionAt_24 : decode cX0_sectionAt 24 = .ok (.iload_n 1, 1) := by decide +kernel
theorem dX0_sectionAt_25 : decode cX0_sectionAt 25 = .ok (.isub, 1) := by decide +kernel
theorem dX0_sectionAt_26 : decode cX0_sectionAt 26 = .ok (.iconst 1, 1) := by decide +kernel
theorem dX0_sectionAt_27 : decode cX0_sectionAt 27 = .ok (.isub, 1) := by decide +kernel
theorem dX0_sectionAt_28 : decode cX0_sectionAt 28 = .ok (.ireturn, 1) := by decide +kernel
theorem dX0_stepAtStation_0 : decode cX0_stepAtStation 0 = .ok (.aload_n 0, 1) := by decide +kernel
theorem dX0_stepAtStation_1 : decode cX0_stepAtStation 1 = .ok (.getfield 34, 3) := by decide +kernel
theorem dX0_stepAtStation_4 : decode cX0_stepAtStation 4 = .ok (.aload_n 0, 1) := by decide +kernel
theorem dX0_stepAtStation_5 : decode cX0_stepAtStation 5 = .ok (.getfield 31, 3) := by decide +kernel
theorem dX0_stepAtStation_8 : decode cX0_stepAtStation 8 = .ok (.if_icmp .le 30, 3) := by decide +kernel
theorem dX0_stepAtStation_11 : decode cX0_stepAtStation 11 = .ok (.iload_n 1, 1) := by decide +kernel
theorem dX0_stepAtStation_12 : decode cX0_stepAtStation 12 = .ok (.aload_n 0, 1) := by decide +kernel
theorem dX0_stepAtStation_13 : decode cX0_stepAtStation 13 = .ok (.getfield 31, 3) := by decide +kernel
theorem dX0_stepAtStation_16 : decode cX0_stepAtStation 16 = .ok (.if_icmp .lt 20, 3) := by decide +kernel
theorem dX0_stepAtStation_19 : decode cX0_stepAtStation 19 = .ok (.iload_n 1, 1) := by decide +kernel
theorem dX0_stepAtStation_20 : decode cX0_stepAtStation 20 = .ok (.aload_n 0, 1) := by decide +kernel
theorem dX0_stepAtStation_21 : decode cX0_stepAtStation 21 = .ok (.getfield 34, 3) := by decide +kernel
theorem dX0_stepAtStation_24 : decode cX0_stepAtStation 24 = .ok (.if_icmp .gt 12, 3) := by decide +kernel
theorem dX0_stepAtStation_27 : decode cX0_stepAtStation 27 = .ok (.iload_n 1, 1) := by decide +kernel
theorem dX0_stepAtStation_28 : decode cX0_stepAtStation 28 = .ok (.aload_n 0, 1) := by decide +kernel
theorem dX0_stepAtStation_29 : decode cX0_stepAtStation 29 = .ok (.getfield 31, 3) := by decide +kernel
theorem dX0_stepAtStation_32 : decode cX0_stepAtStation 32 = .ok (.isub, 1) := by decide +kernel
theorem dX0_stepAtStation_33 : decode cX0_stepAtStation 33 = .ok (.goto 4, 3) := by decide +kernel
theorem dX0_stepAtStation_36 : decode cX0_stepAtStation 36 = .ok (.iconst (-1), 1) := by decide +kernel
theorem dX0_stepAtStation_37 : decode cX0_stepAtStation 37 = .ok (.ireturn, 1) := by decide +kernel
theorem dX0_stepAtStation_38 : decode cX0_stepAtStation 38 = .ok (.iload_n 1, 1) := by decide +kernel
theorem dX0_stepAtStation_39 : decode cX0_stepAtStation 39 = .ok (.aload_n 0, 1) := by decide +kernel
theorem dX0_stepAtStation_40 : decode cX0_stepAtStation 40 = .ok (.getfield 34, 3) := by decide +kernel
theorem dX0_stepAtStation_43 : decode cX0_stepAtStation 43 = .ok (.if_icmp .lt 20, 3) := by decide +kernel
theorem dX0_stepAtStation_46 : decode cX0_stepAtStation 46 = .ok (.iload_n 1, 1) := by decide +kernel
theorem dX0_stepAtStation_47 : decode cX0_stepAtStation 47 = .ok (.aload_n 0, 1) := by decide +kernel
theorem dX0_stepAtStation_48 : decode cX0_stepAtStation 48 = .ok (.getfield 31, 3) := by decide +kernel
theorem dX0_stepAtStation_51 : decode cX0_stepAtStation 51 = .ok (.if_icmp .gt 12, 3) := by decide +kernel
theorem dX0_stepAtStation_54 : decode cX0_stepAtStation 54 = .ok (.aload_n 0, 1) := by decide +kernel
theorem dX0_stepAtStation_55 : decode cX0_stepAtStation 55 = .ok (.getfield 31, 3) := by decide +kernel
theorem dX0_stepAtStation_58 : decode cX0_stepAtStation 58 = .ok (.iload_n 1, 1) := by decide +kernel
theorem dX0_stepAtStation_59 : decode cX0_stepAtStation 59 = .ok (.isub, 1) := by decide +kernel
theorem dX0_stepAtStation_60 : decode cX0_stepAtStation 60 = .ok (.goto 4, 3) := by decide +kernel
theorem dX0_stepAtStation_63 : decode cX0_stepAtStation 63 = .ok (.iconst (-1), 1) := by decide +kernel
theorem dX0_stepAtStation_64 : decode cX0_stepAtStation 64 = .ok (.ireturn, 1) := by decide +kernel
theorem dX0_stepInSection_0 : decode cX0_stepInSection 0 = .ok (.aload_n 0, 1) := by decide +kernel
theorem dX0_stepInSection_1 : decode cX0_stepInSection 1 = .ok (.getfield 34, 3) := by decide +kernel
theorem dX0_stepInSection_4 : decode cX0_stepInSection 4 = .ok (.aload_n 0, 1) := by decide +kernel
theorem dX0_stepInSection_5 : decode cX0_stepInSection 5 = .ok (.getfield 31, 3) := by decide +kernel
theorem dX0_stepInSection_8 : decode cX0_stepInSection 8 = .ok (.if_icmp .le 30, 3) := by decide +kernel
theorem dX0_stepInSection_11 : decode cX0_stepInSection 11 = .ok (.iload_n 1, 1) := by decide +kernel
theorem dX0_stepInSection_12 : decode cX0_stepInSection 12 = .ok (.aload_n 0, 1) := by decide +kernel
theorem dX0_stepInSection_13 : decode cX0_stepInSection 13 = .ok (.getfield 31, 3) := by decide +kernel
theorem dX0_stepInSection_16 : decode cX0_stepInSection 16 = .ok (.if_icmp .lt 20, 3) := by decide +kernel
theorem dX0_stepInSection_19 : decode cX0_stepInSection 19 = .ok (.iload_n 1, 1) := by decide +kernel
theorem dX0_stepInSection_20 : decode cX0_stepInSection 20 = .ok (.aload_n 0, 1) := by decide +kernel
theorem dX0_stepInSection_21 : decode cX0_stepInSection 21 = .ok (.getfield 34, 3) := by decide +kernel
theorem dX0_stepInSection_24 : decode cX0_stepInSection 24 = .ok (.if_icmp .ge 12, 3) := by decide +kernel
theorem dX0_stepInSection_27 : decode cX0_stepInSection 27 = .ok (.iload_n 1, 1) := by decide +kernel
theorem dX0_stepInSection_28 : decode cX0_stepInSection 28 = .ok (.aload_n 0, 1) := by decide +kernel
theorem dX0_stepInSection_29 : decode cX0_stepInSection 29 = .ok (.getfield 31, 3) := by decide +kernel
theorem dX0_stepInSection_32 : decode cX0_stepInSection 32 = .ok (.isub, 1) := by decide +kernel
theorem dX0_stepInSection_33 : decode cX0_stepInSection 33 = .ok (.goto 4, 3) := by decide +kernel
theorem dX0_stepInSection_36 : decode cX0_stepInSection 36 = .ok (.iconst (-1), 1) := by decide +kernel
theorem dX0_stepInSection_37 : decode cX0_stepInSection 37 = .ok (.ireturn, 1) := by decide +kernel
theorem dX0_stepInSection_38 : decode cX0_stepInSection 38 = .ok (.iload_n 1, 1) := by decide +kernel
theorem dX0_stepInSection_39 : decode cX0_stepInSection 39 = .ok (.aload_n 0, 1) := by decide +kernel
theorem dX0_stepInSection_40 : decode cX0_stepInSection 40 = .ok (.getfield 34, 3) := by decide +kernel
theorem dX0_stepInSection_43 : decode cX0_stepInSection 43 = .ok (.if_icmp .lt 22, 3) := by decide +kernel
theorem dX0_stepInSection_46 : decode cX0_stepInSection 46 = .ok (.iload_n 1, 1) := by decide +kernel
theorem dX0_stepInSection_47 : decode cX0_stepInSection 47 = .ok (.aload_n 0, 1) := by decide +kernel
theorem dX0_stepInSection_48 : decode cX0_stepInSection 48 = .ok (.getfield 31, 3) := by decide +kernel
theorem dX0_stepInSection_51 : decode cX0_stepInSection 51 = .ok (.if_icmp .ge 14, 3) := by decide +kernel
theorem dX0_stepInSection_54 : decode cX0_stepInSection 54 = .ok (.aload_n 0, 1) := by decide +kernel
theorem dX0_stepInSection_55 : decode cX0_stepInSection 55 = .ok (.getfield 31, 3) := by decide +kernel
theorem dX0_stepInSection_58 : decode cX0_stepInSection 58 = .ok (.iload_n 1, 1) := by decide +kernel
theorem dX0_stepInSection_59 : decode cX0_stepInSection 59 = .ok (.isub, 1) := by decide +kernel
theorem dX0_stepInSection_60 : decode cX0_stepInSection 60 = .ok (.iconst 1, 1) := by decide +kernel
theorem dX0_stepInSection_61 : decode cX0_stepInSection 61 = .ok (.isub, 1) := by decide +kernel
theorem dX0_stepInSection_62 : decode cX0_stepInSection 62 = .ok (.goto 4, 3) := by decide +kernel
theorem dX0_stepInSection_65 : decode cX0_stepInSection 65 = .ok (.iconst (-1), 1) := by decide +kernel
theorem dX0_stepInSection_66 : decode cX0_stepInSection 66 = .ok (.ireturn, 1) := by decide +kernel
theorem dX1_init_0 : decode cX1_init 0 = .ok (.aload_n 0, 1) := by decide +kernel
theorem dX1_init_1 : decode cX1_init 1 = .ok (.invokespecial 1, 3) := by decide +kernel
theorem dX1_init_4 : decode cX1_init 4 = .ok (.aload_n 0, 1) := by decide +kernel
theorem dX1_init_5 : decode cX1_init 5 = .ok (.new 7, 3) := by decide +kernel
theorem dX1_init_8 : decode cX1_init 8 = .ok (.dup, 1) := by decide +kernel
theorem dX1_init_9 : decode cX1_init 9 = .ok (.invokespecial 9, 3) := by decide +kernel
theorem dX1_init_12 : decode cX1_init 12 = .ok (.putfield 10, 3) := by decide +kernel
theorem dX1_init_15 : decode cX1_init 15 = .ok (.aload_n 0, 1) := by decide +kernel
theorem dX1_init_16 : decode cX1_init 16 = .ok (.new 7, 3) := by decide +kernel
theorem dX1_init_19 : decode cX1_init 19 = .ok (.dup, 1) := by decide +kernel
theorem dX1_init_20 : decode cX1_init 20 = .ok (.invokespecial 9, 3) := by decide +kernel
theorem dX1_init_23 : decode cX1_init 23 = .ok (.putfield 16, 3) := by decide +kernel
theorem dX1_init_26 : decode cX1_init 26 = .ok (.return_, 1) := by decide +kernel
theorem dX1_size_0 : decode cX1_size 0 = .ok (.aload_n 0, 1) := by decide +kernel
theorem dX1_size_1 : decode cX1_size 1 = .ok (.getfield 10, 3) := by decide +kernel
theorem dX1_size_4 : decode cX1_size 4 = .ok (.invokevirtual 19, 3) := by decide +kernel
theorem dX1_size_7 : decode cX1_size 7 = .ok (.ireturn, 1) := by decide +kernel
theorem dX1_at_0 : decode cX1_at 0 = .ok (.iload_n 1, 1) := by decide +kernel
theorem dX1_at_1 : decode cX1_at 1 = .ok (.ifCond .lt 28, 3) := by decide +kernel
theorem dX1_at_4 : decode cX1_at 4 = .ok (.iload_n 1, 1) := by decide +kernel
theorem dX1_at_5 : decode cX1_at 5 = .ok (.aload_n 0, 1) := by decide +kernel
theorem dX1_at_6 : decode cX1_at 6 = .ok (.getfield 10, 3) := by decide +kernel
theorem dX1_at_9 : decode cX1_at 9 = .ok (.invokevirtual 19, 3) := by decide +kernel
theorem dX1_at_12 : decode cX1_at 12 = .ok (.if_icmp .ge 17, 3) := by decide +kernel
theorem dX1_at_15 : decode cX1_at 15 = .ok (.aload_n 0, 1) := by decide +kernel
theorem dX1_at_16 : decode cX1_at 16 = .ok (.getfield 10, 3) := by decide +kernel
theorem dX1_at_19 : decode cX1_at 19 = .ok (.iload_n 1, 1) := by decide +kernel
theorem dX1_at_20 : decode cX1_at 20 = .ok (.invokevirtual 23, 3) := by decide +kernel
theorem dX1_at_23 : decode cX1_at 23 = .ok (.checkcast 27, 3) := by decide +kernel
theorem dX1_at_26 : decode cX1_at 26 = .ok (.goto 4, 3) := by decide +kernel
theorem dX1_at_29 : decode cX1_at 29 = .ok (.aconst_null, 1) := by decide +kernel
theorem dX1_at_30 : decode cX1_at 30 = .ok (.areturn, 1) := by decide +kernel
theorem dX1_add_0 : decode cX1_add 0 = .ok (.aload_n 0, 1) := by decide +kernel
theorem dX1_add_1 : decode cX1_add 1 = .ok (.getfield 16, 3) := by decide +kernel
theorem dX1_add_4 : decode cX1_add 4 = .ok (.invokevirtual 19, 3) := by decide +kernel
theorem dX1_add_7 : decode cX1_add 7 = .ok (.istore_n 2, 1) := by decide +kernel
theorem dX1_add_8 : decode cX1_add 8 = .ok (.iload_n 2, 1) := by decide +kernel
theorem dX1_add_9 : decode cX1_add 9 = .ok (.ifCond .le 32, 3) := by decide +kernel
theorem dX1_add_12 : decode cX1_add 12 = .ok (.aload_n 0, 1) := by decide +kernel
theorem dX1_add_13 : decode cX1_add 13 = .ok (.getfield 16, 3) := by decide +kernel
theorem dX1_add_16 : decode cX1_add 16 = .ok (.iload_n 2, 1) := by decide +kernel
theorem dX1_add_17 : decode cX1_add 17 = .ok (.iconst 1, 1) := by decide +kernel
theorem dX1_add_18 : decode cX1_add 18 = .ok (.isub, 1) := by decide +kernel
theorem dX1_add_19 : decode cX1_add 19 = .ok (.invokevirtual 23, 3) := by decide +kernel
theorem dX1_add_22 : decode cX1_add 22 = .ok (.checkcast 27, 3) := by decide +kernel
theorem dX1_add_25 : decode cX1_add 25 = .ok (.getfield 29, 3) := by decide +kernel
theorem dX1_add_28 : decode cX1_add 28 = .ok (.aload_n 1, 1) := by decide +kernel
theorem dX1_add_29 : decode cX1_add 29 = .ok (.getfield 29, 3) := by decide +kernel
theorem dX1_add_32 : decode cX1_add 32 = .ok (.if_icmp .le 9, 3) := by decide +kernel
theorem dX1_add_35 : decode cX1_add 35 = .ok (.iinc 2 (-1), 3) := by decide +kernel
theorem dX1_add_38 : decode cX1_add 38 = .ok (.goto (-30), 3) := by decide +kernel
theorem dX1_add_41 : decode cX1_add 41 = .ok (.aload_n 0, 1) := by decide +kernel
theorem dX1_add_42 : decode cX1_add 42 = .ok (.getfield 16, 3) := by decide +kernel
theorem dX1_add_45 : decode cX1_add 45 = .ok (.iload_n 2, 1) := by decide +kernel
theorem dX1_add_46 : decode cX1_add 46 = .ok (.aload_n 1, 1) := by decide +kernel
theorem dX1_add_47 : decode cX1_add 47 = .ok (.invokevirtual 33, 3) := by decide +kernel
theorem dX1_add_50 : decode cX1_add 50 = .ok (.aload_n 0, 1) := by decide +kernel
theorem dX1_add_51 : decode cX1_add 51 = .ok (.getfield 10, 3) := by decide +kernel
theorem dX1_add_54 : decode cX1_add 54 = .ok (.aload_n 1, 1) := by decide +kernel
theorem dX1_add_55 : decode cX1_add 55 = .ok (.invokevirtual 37, 3) := by decide +kernel
theorem dX1_add_58 : decode cX1_add 58 = .ok (.pop, 1) := by decide +kernel
theorem dX1_add_59 : decode cX1_add 59 = .ok (.return_, 1) := by decide +kernel
theorem dX1_dropAll_0 : decode cX1_dropAll 0 = .ok (.iconst 0, 1) := by decide +kernel
theorem dX1_dropAll_1 : decode cX1_dropAll 1 = .ok (.istore_n 1, 1) := by decide +kernel
theorem dX1_dropAll_2 : decode cX1_dropAll 2 = .ok (.iload_n 1, 1) := by decide +kernel
theorem dX1_dropAll_3 : decode cX1_dropAll 3 = .ok (.aload_n 0, 1) := by decide +kernel
theorem dX1_dropAll_4 : decode cX1_dropAll 4 = .ok (.getfield 10, 3) := by decide +kernel
theorem dX1_dropAll_7 : decode cX1_dropAll 7 = .ok (.invokevirtual 19, 3) := by decide +kernel
theorem dX1_dropAll_10 : decode cX1_dropAll 10 = .ok (.if_icmp .ge 24, 3) := by decide +kernel
theorem dX1_dropAll_13 : decode cX1_dropAll 13 = .ok (.aload_n 0, 1) := by decide +kernel
theorem dX1_dropAll_14 : decode cX1_dropAll 14 = .ok (.getfield 10, 3) := by decide +kernel
theorem dX1_dropAll_17 : decode cX1_dropAll 17 = .ok (.iload_n 1, 1) := by decide +kernel
theorem dX1_dropAll_18 : decode cX1_dropAll 18 = .ok (.invokevirtual 23, 3) := by decide +kernel
theorem dX1_dropAll_21 : decode cX1_dropAll 21 = .ok (.checkcast 27, 3) := by decide +kernel
theorem dX1_dropAll_24 : decode cX1_dropAll 24 = .ok (.iconst 0, 1) := by decide +kernel
theorem dX1_dropAll_25 : decode cX1_dropAll 25 = .ok (.putfield 40, 3) := by decide +kernel
theorem dX1_dropAll_28 : decode cX1_dropAll 28 = .ok (.iinc 1 1, 3) := by decide +kernel
theorem dX1_dropAll_31 : decode cX1_dropAll 31 = .ok (.goto (-29), 3) := by decide +kernel
theorem dX1_dropAll_34 : decode cX1_dropAll 34 = .ok (.return_, 1) := by decide +kernel
theorem dX1_pathsGiven_0 : decode cX1_pathsGiven 0 = .ok (.iconst 0, 1) := by decide +kernel
theorem dX1_pathsGiven_1 : decode cX1_pathsGiven 1 = .ok (.istore_n 1, 1) := by decide +kernel
theorem dX1_pathsGiven_2 : decode cX1_pathsGiven 2 = .ok (.iconst 0, 1) := by decide +kernel
theorem dX1_pathsGiven_3 : decode cX1_pathsGiven 3 = .ok (.istore_n 2, 1) := by decide +kernel
theorem dX1_pathsGiven_4 : decode cX1_pathsGiven 4 = .ok (.iload_n 2, 1) := by decide +kernel
theorem dX1_pathsGiven_5 : decode cX1_pathsGiven 5 = .ok (.aload_n 0, 1) := by decide +kernel
theorem dX1_pathsGiven_6 : decode cX1_pathsGiven 6 = .ok (.getfield 10, 3) := by decide +kernel
theorem dX1_pathsGiven_9 : decode cX1_pathsGiven 9 = .ok (.invokevirtual 19, 3) := by decide +kernel
theorem dX1_pathsGiven_12 : decode cX1_pathsGiven 12 = .ok (.if_icmp .ge 34, 3) := by decide +kernel
theorem dX1_pathsGiven_15 : decode cX1_pathsGiven 15 = .ok (.iload_n 1, 1) := by decide +kernel
theorem dX1_pathsGiven_16 : decode cX1_pathsGiven 16 = .ok (.aload_n 0, 1) := by decide +kernel
theorem dX1_pathsGiven_17 : decode cX1_pathsGiven 17 = .ok (.getfield 10, 3) := by decide +kernel
theorem dX1_pathsGiven_20 : decode cX1_pathsGiven 20 = .ok (.iload_n 2, 1) := by decide +kernel
theorem dX1_pathsGiven_21 : decode cX1_pathsGiven 21 = .ok (.invokevirtual 23, 3) := by decide +kernel
theorem dX1_pathsGiven_24 : decode cX1_pathsGiven 24 = .ok (.checkcast 27, 3) := by decide +kernel
theorem dX1_pathsGiven_27 : decode cX1_pathsGiven 27 = .ok (.getfield 40, 3) := by decide +kernel
theorem dX1_pathsGiven_30 : decode cX1_pathsGiven 30 = .ok (.ifCond .eq 7, 3) := by decide +kernel
theorem dX1_pathsGiven_33 : decode cX1_pathsGiven 33 = .ok (.iconst 1, 1) := by decide +kernel
theorem dX1_pathsGiven_34 : decode cX1_pathsGiven 34 = .ok (.goto 4, 3) := by decide +kernel
theorem dX1_pathsGiven_37 : decode cX1_pathsGiven 37 = .ok (.iconst 0, 1) := by decide +kernel
theorem dX1_pathsGiven_38 : decode cX1_pathsGiven 38 = .ok (.iadd, 1) := by decide +kernel
theorem dX1_pathsGiven_39 : decode cX1_pathsGiven 39 = .ok (.istore_n 1, 1) := by decide +kernel
theorem dX1_pathsGiven_40 : decode cX1_pathsGiven 40 = .ok (.iinc 2 1, 3) := by decide +kernel
theorem dX1_pathsGiven_43 : decode cX1_pathsGiven 43 = .ok (.goto (-39), 3) := by decide +kernel
theorem dX1_pathsGiven_46 : decode cX1_pathsGiven 46 = .ok (.iload_n 1, 1) := by decide +kernel
theorem dX1_pathsGiven_47 : decode cX1_pathsGiven 47 = .ok (.ireturn, 1) := by decide +kernel
theorem dX1_worthsGiven_0 : decode cX1_worthsGiven 0 = .ok (.iconst 0, 1) := by decide +kernel
theorem dX1_worthsGiven_1 : decode cX1_worthsGiven 1 = .ok (.istore_n 1, 1) := by decide +kernel
theorem dX1_worthsGiven_2 : decode cX1_worthsGiven 2 = .ok (.iconst 0, 1) := by decide +kernel
theorem dX1_worthsGiven_3 : decode cX1_worthsGiven 3 = .ok (.istore_n 2, 1) := by decide +kernel
theorem dX1_worthsGiven_4 : decode cX1_worthsGiven 4 = .ok (.iload_n 2, 1) := by decide +kernel
theorem dX1_worthsGiven_5 : decode cX1_worthsGiven 5 = .ok (.aload_n 0, 1) := by decide +kernel
theorem dX1_worthsGiven_6 : decode cX1_worthsGiven 6 = .ok (.getfield 10, 3) := by decide +kernel
theorem dX1_worthsGiven_9 : decode cX1_worthsGiven 9 = .ok (.invokevirtual 19, 3) := by decide +kernel
theorem dX1_worthsGiven_12 : decode cX1_worthsGiven 12 = .ok (.if_icmp .ge 47, 3) := by decide +kernel
theorem dX1_worthsGiven_15 : decode cX1_worthsGiven 15 = .ok (.iload_n 1, 1) := by decide +kernel
theorem dX1_worthsGiven_16 : decode cX1_worthsGiven 16 = .ok (.aload_n 0, 1) := by decide +kernel
theorem dX1_worthsGiven_17 : decode cX1_worthsGiven 17 = .ok (.getfield 10, 3) := by decide +kernel
theorem dX1_worthsGiven_20 : decode cX1_worthsGiven 20 = .ok (.iload_n 2, 1) := by decide +kernel
theorem dX1_worthsGiven_21 : decode cX1_worthsGiven 21 = .ok (.invokevirtual 23, 3) := by decide +kernel
theorem dX1_worthsGiven_24 : decode cX1_worthsGiven 24 = .ok (.checkcast 27, 3) := by decide +kernel
theorem dX1_worthsGiven_27 : decode cX1_worthsGiven 27 = .ok (.getfield 40, 3) := by decide +kernel
theorem dX1_worthsGiven_30 : decode cX1_worthsGiven 30 = .ok (.ifCond .eq 20, 3) := by decide +kernel
theorem dX1_worthsGiven_33 : decode cX1_worthsGiven 33 = .ok (.aload_n 0, 1) := by decide +kernel
theorem dX1_worthsGiven_34 : decode cX1_worthsGiven 34 = .ok (.getfield 10, 3) := by decide +kernel
theorem dX1_worthsGiven_37 : decode cX1_worthsGiven 37 = .ok (.iload_n 2, 1) := by decide +kernel
theorem dX1_worthsGiven_38 : decode cX1_worthsGiven 38 = .ok (.invokevirtual 23, 3) := by decide +kernel
theorem dX1_worthsGiven_41 : decode cX1_worthsGiven 41 = .ok (.checkcast 27, 3) := by decide +kernel
theorem dX1_worthsGiven_44 : decode cX1_worthsGiven 44 = .ok (.getfield 44, 3) := by decide +kernel
theorem dX1_worthsGiven_47 : decode cX1_worthsGiven 47 = .ok (.goto 4, 3) := by decide +kernel
theorem dX1_worthsGiven_50 : decode cX1_worthsGiven 50 = .ok (.iconst 0, 1) := by decide +kernel
theorem dX1_worthsGiven_51 : decode cX1_worthsGiven 51 = .ok (.iadd, 1) := by decide +kernel
theorem dX1_worthsGiven_52 : decode cX1_worthsGiven 52 = .ok (.istore_n 1, 1) := by decide +kernel
theorem dX1_worthsGiven_53 : decode cX1_worthsGiven 53 = .ok (.iinc 2 1, 3) := by decide +kernel
theorem dX1_worthsGiven_56 : decode cX1_worthsGiven 56 = .ok (.goto (-52), 3) := by decide +kernel
theorem dX1_worthsGiven_59 : decode cX1_worthsGiven 59 = .ok (.iload_n 1, 1) := by decide +kernel
theorem dX1_worthsGiven_60 : decode cX1_worthsGiven 60 = .ok (.ireturn, 1) := by decide +kernel
theorem dX2_init_0 : decode cX2_init 0 = .ok (.aload_n 0, 1) := by decide +kernel
theorem dX2_init_1 : decode cX2_init 1 = .ok (.invokespecial 3, 3) := by decide +kernel
theorem dX2_init_4 : decode cX2_init 4 = .ok (.aload_n 0, 1) := by decide +kernel
theorem dX2_init_5 : decode cX2_init 5 = .ok (.aload_n 1, 1) := by decide +kernel
theorem dX2_init_6 : decode cX2_init 6 = .ok (.putfield 9, 3) := by decide +kernel
theorem dX2_init_9 : decode cX2_init 9 = .ok (.aload_n 0, 1) := by decide +kernel
theorem dX2_init_10 : decode cX2_init 10 = .ok (.aload_n 2, 1) := by decide +kernel
theorem dX2_init_11 : decode cX2_init 11 = .ok (.putfield 15, 3) := by decide +kernel
theorem dX2_init_14 : decode cX2_init 14 = .ok (.return_, 1) := by decide +kernel
theorem dX2_seekFirst_0 : decode cX2_seekFirst 0 = .ok (.iconst 0, 1) := by decide +kernel
theorem dX2_seekFirst_1 : decode cX2_seekFirst 1 = .ok (.istore_n 1, 1) := by decide +kernel
theorem dX2_seekFirst_2 : decode cX2_seekFirst 2 = .ok (.iload_n 1, 1) := by decide +kernel
theorem dX2_seekFirst_3 : decode cX2_seekFirst 3 = .ok (.aload_n 0, 1) := by decide +kernel
theorem dX2_seekFirst_4 : decode cX2_seekFirst 4 = .ok (.getfield 15, 3) := by decide +kernel
theorem dX2_seekFirst_7 : decode cX2_seekFirst 7 = .ok (.invokevirtual 19, 3) := by decide +kernel
theorem dX2_seekFirst_10 : decode cX2_seekFirst 10 = .ok (.if_icmp .ge 76, 3) := by decide +kernel
theorem dX2_seekFirst_13 : decode cX2_seekFirst 13 = .ok (.aload_n 0, 1) := by decide +kernel
theorem dX2_seekFirst_14 : decode cX2_seekFirst 14 = .ok (.getfield 15, 3) := by decide +kernel
theorem dX2_seekFirst_17 : decode cX2_seekFirst 17 = .ok (.getfield 25, 3) := by decide +kernel
theorem dX2_seekFirst_20 : decode cX2_seekFirst 20 = .ok (.iload_n 1, 1) := by decide +kernel
theorem dX2_seekFirst_21 : decode cX2_seekFirst 21 = .ok (.invokevirtual 29, 3) := by decide +kernel
theorem dX2_seekFirst_24 : decode cX2_seekFirst 24 = .ok (.checkcast 35, 3) := by decide +kernel
theorem dX2_seekFirst_27 : decode cX2_seekFirst 27 = .ok (.astore_n 2, 1) := by decide +kernel
theorem dX2_seekFirst_28 : decode cX2_seekFirst 28 = .ok (.iconst 1, 1) := by decide +kernel
theorem dX2_seekFirst_29 : decode cX2_seekFirst 29 = .ok (.istore_n 3, 1) := by decide +kernel
theorem dX2_seekFirst_30 : decode cX2_seekFirst 30 = .ok (.iload_n 3, 1) := by decide +kernel
theorem dX2_seekFirst_31 : decode cX2_seekFirst 31 = .ok (.iconst 3, 1) := by decide +kernel
theorem dX2_seekFirst_32 : decode cX2_seekFirst 32 = .ok (.if_icmp .gt 48, 3) := by decide +kernel
theorem dX2_seekFirst_35 : decode cX2_seekFirst 35 = .ok (.aload_n 2, 1) := by decide +kernel
theorem dX2_seekFirst_36 : decode cX2_seekFirst 36 = .ok (.getfield 37, 3) := by decide +kernel
theorem dX2_seekFirst_39 : decode cX2_seekFirst 39 = .ok (.ifCond .eq 41, 3) := by decide +kernel
theorem dX2_seekFirst_42 : decode cX2_seekFirst 42 = .ok (.aload_n 0, 1) := by decide +kernel
theorem dX2_seekFirst_43 : decode cX2_seekFirst 43 = .ok (.aload_n 2, 1) := by decide +kernel
theorem dX2_seekFirst_44 : decode cX2_seekFirst 44 = .ok (.iload_n 3, 1) := by decide +kernel
theorem dX2_seekFirst_45 : decode cX2_seekFirst 45 = .ok (.invokevirtual 41, 3) := by decide +kernel
theorem dX2_seekFirst_48 : decode cX2_seekFirst 48 = .ok (.istore 4, 2) := by decide +kernel
theorem dX2_seekFirst_50 : decode cX2_seekFirst 50 = .ok (.iload 4, 2) := by decide +kernel
theorem dX2_seekFirst_52 : decode cX2_seekFirst 52 = .ok (.iconst (-1), 1) := by decide +kernel
theorem dX2_seekFirst_53 : decode cX2_seekFirst 53 = .ok (.if_icmp .eq 21, 3) := by decide +kernel
theorem dX2_seekFirst_56 : decode cX2_seekFirst 56 = .ok (.aload_n 0, 1) := by decide +kernel
theorem dX2_seekFirst_57 : decode cX2_seekFirst 57 = .ok (.iload_n 1, 1) := by decide +kernel
theorem dX2_seekFirst_58 : decode cX2_seekFirst 58 = .ok (.putfield 45, 3) := by decide +kernel
theorem dX2_seekFirst_61 : decode cX2_seekFirst 61 = .ok (.aload_n 0, 1) := by decide +kernel
theorem dX2_seekFirst_62 : decode cX2_seekFirst 62 = .ok (.iload_n 3, 1) := by decide +kernel
theorem dX2_seekFirst_63 : decode cX2_seekFirst 63 = .ok (.putfield 49, 3) := by decide +kernel
theorem dX2_seekFirst_66 : decode cX2_seekFirst 66 = .ok (.aload_n 0, 1) := by decide +kernel
theorem dX2_seekFirst_67 : decode cX2_seekFirst 67 = .ok (.iload 4, 2) := by decide +kernel
theorem dX2_seekFirst_69 : decode cX2_seekFirst 69 = .ok (.putfield 52, 3) := by decide +kernel
theorem dX2_seekFirst_72 : decode cX2_seekFirst 72 = .ok (.iconst 1, 1) := by decide +kernel
theorem dX2_seekFirst_73 : decode cX2_seekFirst 73 = .ok (.ireturn, 1) := by decide +kernel
theorem dX2_seekFirst_74 : decode cX2_seekFirst 74 = .ok (.iinc 3 1, 3) := by decide +kernel
theorem dX2_seekFirst_77 : decode cX2_seekFirst 77 = .ok (.goto (-47), 3) := by decide +kernel
theorem dX2_seekFirst_80 : decode cX2_seekFirst 80 = .ok (.iinc 1 1, 3) := by decide +kernel
theorem dX2_seekFirst_83 : decode cX2_seekFirst 83 = .ok (.goto (-81), 3) := by decide +kernel
theorem dX2_seekFirst_86 : decode cX2_seekFirst 86 = .ok (.iconst 0, 1) := by decide +kernel
theorem dX2_seekFirst_87 : decode cX2_seekFirst 87 = .ok (.ireturn, 1) := by decide +kernel
theorem dX2_firstMinute_0 : decode cX2_firstMinute 0 = .ok (.iload_n 2, 1) := by decide +kernel
theorem dX2_firstMinute_1 : decode cX2_firstMinute 1 = .ok (.iconst 1, 1) := by decide +kernel
theorem dX2_firstMinute_2 : decode cX2_firstMinute 2 = .ok (.if_icmp .ne 9, 3) := by decide +kernel
theorem dX2_firstMinute_5 : decode cX2_firstMinute 5 = .ok (.aload_n 0, 1) := by decide +kernel
theorem dX2_firstMinute_6 : decode cX2_firstMinute 6 = .ok (.aload_n 1, 1) := by decide +kernel
theorem dX2_firstMinute_7 : decode cX2_firstMinute 7 = .ok (.invokevirtual 55, 3) := by decide +kernel
theorem dX2_firstMinute_10 : decode cX2_firstMinute 10 = .ok (.ireturn, 1) := by decide +kernel
theorem dX2_firstMinute_11 : decode cX2_firstMinute 11 = .ok (.iload_n 2, 1) := by decide +kernel
theorem dX2_firstMinute_12 : decode cX2_firstMinute 12 = .ok (.iconst 2, 1) := by decide +kernel
theorem dX2_firstMinute_13 : decode cX2_firstMinute 13 = .ok (.if_icmp .ne 11, 3) := by decide +kernel
theorem dX2_firstMinute_16 : decode cX2_firstMinute 16 = .ok (.aload_n 0, 1) := by decide +kernel
theorem dX2_firstMinute_17 : decode cX2_firstMinute 17 = .ok (.aload_n 1, 1) := by decide +kernel
theorem dX2_firstMinute_18 : decode cX2_firstMinute 18 = .ok (.invokevirtual 59, 3) := by decide +kernel
theorem dX2_firstMinute_21 : decode cX2_firstMinute 21 = .ok (.goto 8, 3) := by decide +kernel
theorem dX2_firstMinute_24 : decode cX2_firstMinute 24 = .ok (.aload_n 0, 1) := by decide +kernel
theorem dX2_firstMinute_25 : decode cX2_firstMinute 25 = .ok (.aload_n 1, 1) := by decide +kernel
theorem dX2_firstMinute_26 : decode cX2_firstMinute 26 = .ok (.invokevirtual 62, 3) := by decide +kernel
theorem dX2_firstMinute_29 : decode cX2_firstMinute 29 = .ok (.ireturn, 1) := by decide +kernel
theorem dX2_firstClosed_0 : decode cX2_firstClosed 0 = .ok (.iconst 0, 1) := by decide +kernel
theorem dX2_firstClosed_1 : decode cX2_firstClosed 1 = .ok (.istore_n 2, 1) := by decide +kernel
theorem dX2_firstClosed_2 : decode cX2_firstClosed 2 = .ok (.iload_n 2, 1) := by decide +kernel
theorem dX2_firstClosed_3 : decode cX2_firstClosed 3 = .ok (.aload_n 1, 1) := by decide +kernel
theorem dX2_firstClosed_4 : decode cX2_firstClosed 4 = .ok (.invokevirtual 65, 3) := by decide +kernel
theorem dX2_firstClosed_7 : decode cX2_firstClosed 7 = .ok (.if_icmp .ge 52, 3) := by decide +kernel
theorem dX2_firstClosed_10 : decode cX2_firstClosed 10 = .ok (.aload_n 1, 1) := by decide +kernel
theorem dX2_firstClosed_11 : decode cX2_firstClosed 11 = .ok (.getfield 68, 3) := by decide +kernel
theorem dX2_firstClosed_14 : decode cX2_firstClosed 14 = .ok (.iload_n 2, 1) := by decide +kernel
theorem dX2_firstClosed_15 : decode cX2_firstClosed 15 = .ok (.iaload, 1) := by decide +kernel
theorem dX2_firstClosed_16 : decode cX2_firstClosed 16 = .ok (.istore_n 3, 1) := by decide +kernel
theorem dX2_firstClosed_17 : decode cX2_firstClosed 17 = .ok (.iload_n 3, 1) := by decide +kernel
theorem dX2_firstClosed_18 : decode cX2_firstClosed 18 = .ok (.aload_n 1, 1) := by decide +kernel
theorem dX2_firstClosed_19 : decode cX2_firstClosed 19 = .ok (.getfield 72, 3) := by decide +kernel
theorem dX2_firstClosed_22 : decode cX2_firstClosed 22 = .ok (.iload_n 2, 1) := by decide +kernel
theorem dX2_firstClosed_23 : decode cX2_firstClosed 23 = .ok (.iconst 1, 1) := by decide +kernel
theorem dX2_firstClosed_24 : decode cX2_firstClosed 24 = .ok (.iadd, 1) := by decide +kernel
theorem dX2_firstClosed_25 : decode cX2_firstClosed 25 = .ok (.iaload, 1) := by decide +kernel
theorem dX2_firstClosed_26 : decode cX2_firstClosed 26 = .ok (.if_icmp .ge 27, 3) := by decide +kernel
theorem dX2_firstClosed_29 : decode cX2_firstClosed 29 = .ok (.aload_n 0, 1) := by decide +kernel
theorem dX2_firstClosed_30 : decode cX2_firstClosed 30 = .ok (.getfield 9, 3) := by decide +kernel
theorem dX2_firstClosed_33 : decode cX2_firstClosed 33 = .ok (.aload_n 1, 1) := by decide +kernel
theorem dX2_firstClosed_34 : decode cX2_firstClosed 34 = .ok (.iload_n 2, 1) := by decide +kernel
theorem dX2_firstClosed_35 : decode cX2_firstClosed 35 = .ok (.invokevirtual 75, 3) := by decide +kernel
theorem dX2_firstClosed_38 : decode cX2_firstClosed 38 = .ok (.iload_n 3, 1) := by decide +kernel
theorem dX2_firstClosed_39 : decode cX2_firstClosed 39 = .ok (.invokevirtual 79, 3) := by decide +kernel
theorem dX2_firstClosed_42 : decode cX2_firstClosed 42 = .ok (.ifCond .eq 5, 3) := by decide +kernel
theorem dX2_firstClosed_45 : decode cX2_firstClosed 45 = .ok (.iload_n 3, 1) := by decide +kernel
theorem dX2_firstClosed_46 : decode cX2_firstClosed 46 = .ok (.ireturn, 1) := by decide +kernel
theorem dX2_firstClosed_47 : decode cX2_firstClosed 47 = .ok (.iinc 3 1, 3) := by decide +kernel
theorem dX2_firstClosed_50 : decode cX2_firstClosed 50 = .ok (.goto (-33), 3) := by decide +kernel
theorem dX2_firstClosed_53 : decode cX2_firstClosed 53 = .ok (.iinc 2 1, 3) := by decide +kernel
theorem dX2_firstClosed_56 : decode cX2_firstClosed 56 = .ok (.goto (-54), 3) := by decide +kernel
theorem dX2_firstClosed_59 : decode cX2_firstClosed 59 = .ok (.iconst (-1), 1) := by decide +kernel
theorem dX2_firstClosed_60 : decode cX2_firstClosed 60 = .ok (.ireturn, 1) := by decide +kernel
theorem dX2_firstHeld_0 : decode cX2_firstHeld 0 = .ok (.iconst 0, 1) := by decide +kernel
theorem dX2_firstHeld_1 : decode cX2_firstHeld 1 = .ok (.istore_n 2, 1) := by decide +kernel
theorem dX2_firstHeld_2 : decode cX2_firstHeld 2 = .ok (.iload_n 2, 1) := by decide +kernel
theorem dX2_firstHeld_3 : decode cX2_firstHeld 3 = .ok (.aload_n 1, 1) := by decide +kernel
theorem dX2_firstHeld_4 : decode cX2_firstHeld 4 = .ok (.invokevirtual 65, 3) := by decide +kernel
theorem dX2_firstHeld_7 : decode cX2_firstHeld 7 = .ok (.if_icmp .ge 50, 3) := by decide +kernel
theorem dX2_firstHeld_10 : decode cX2_firstHeld 10 = .ok (.aload_n 1, 1) := by decide +kernel
theorem dX2_firstHeld_11 : decode cX2_firstHeld 11 = .ok (.getfield 68, 3) := by decide +kernel
theorem dX2_firstHeld_14 : decode cX2_firstHeld 14 = .ok (.iload_n 2, 1) := by decide +kernel
theorem dX2_firstHeld_15 : decode cX2_firstHeld 15 = .ok (.iaload, 1) := by decide +kernel
theorem dX2_firstHeld_16 : decode cX2_firstHeld 16 = .ok (.istore_n 3, 1) := by decide +kernel
theorem dX2_firstHeld_17 : decode cX2_firstHeld 17 = .ok (.iload_n 3, 1) := by decide +kernel
theorem dX2_firstHeld_18 : decode cX2_firstHeld 18 = .ok (.aload_n 1, 1) := by decide +kernel
theorem dX2_firstHeld_19 : decode cX2_firstHeld 19 = .ok (.getfield 72, 3) := by decide +kernel
theorem dX2_firstHeld_22 : decode cX2_firstHeld 22 = .ok (.iload_n 2, 1) := by decide +kernel
theorem dX2_firstHeld_23 : decode cX2_firstHeld 23 = .ok (.iconst 1, 1) := by decide +kernel
theorem dX2_firstHeld_24 : decode cX2_firstHeld 24 = .ok (.iadd, 1) := by decide +kernel
theorem dX2_firstHeld_25 : decode cX2_firstHeld 25 = .ok (.iaload, 1) := by decide +kernel
theorem dX2_firstHeld_26 : decode cX2_firstHeld 26 = .ok (.if_icmp .ge 25, 3) := by decide +kernel
theorem dX2_firstHeld_29 : decode cX2_firstHeld 29 = .ok (.aload_n 0, 1) := by decide +kernel
theorem dX2_firstHeld_30 : decode cX2_firstHeld 30 = .ok (.aload_n 1, 1) := by decide +kernel
theorem dX2_firstHeld_31 : decode cX2_firstHeld 31 = .ok (.aload_n 1, 1) := by decide +kernel
theorem dX2_firstHeld_32 : decode cX2_firstHeld 32 = .ok (.iload_n 2, 1) := by decide +kernel
theorem dX2_firstHeld_33 : decode cX2_firstHeld 33 = .ok (.invokevirtual 75, 3) := by decide +kernel
theorem dX2_firstHeld_36 : decode cX2_firstHeld 36 = .ok (.iload_n 3, 1) := by decide +kernel
theorem dX2_firstHeld_37 : decode cX2_firstHeld 37 = .ok (.invokevirtual 85, 3) := by decide +kernel
theorem dX2_firstHeld_40 : decode cX2_firstHeld 40 = .ok (.ifCond .eq 5, 3) := by decide +kernel
theorem dX2_firstHeld_43 : decode cX2_firstHeld 43 = .ok (.iload_n 3, 1) := by decide +kernel
theorem dX2_firstHeld_44 : decode cX2_firstHeld 44 = .ok (.ireturn, 1) := by decide +kernel
theorem dX2_firstHeld_45 : decode cX2_firstHeld 45 = .ok (.iinc 3 1, 3) := by decide +kernel
theorem dX2_firstHeld_48 : decode cX2_firstHeld 48 = .ok (.goto (-31), 3) := by decide +kernel
theorem dX2_firstHeld_51 : decode cX2_firstHeld 51 = .ok (.iinc 2 1, 3) := by decide +kernel
theorem dX2_firstHeld_54 : decode cX2_firstHeld 54 = .ok (.goto (-52), 3) := by decide +kernel
theorem dX2_firstHeld_57 : decode cX2_firstHeld 57 = .ok (.iconst (-1), 1) := by decide +kernel
theorem dX2_firstHeld_58 : decode cX2_firstHeld 58 = .ok (.ireturn, 1) := by decide +kernel
theorem dX2_isHeldByOther_0 : decode cX2_isHeldByOther 0 = .ok (.iconst 0, 1) := by decide +kernel
theorem dX2_isHeldByOther_1 : decode cX2_isHeldByOther 1 = .ok (.istore 4, 2) := by decide +kernel
theorem dX2_isHeldByOther_3 : decode cX2_isHeldByOther 3 = .ok (.iload 4, 2) := by decide +kernel
theorem dX2_isHeldByOther_5 : decode cX2_isHeldByOther 5 = .ok (.aload_n 0, 1) := by decide +kernel
theorem dX2_isHeldByOther_6 : decode cX2_isHeldByOther 6 = .ok (.getfield 15, 3) := by decide +kernel
theorem dX2_isHeldByOther_9 : decode cX2_isHeldByOther 9 = .ok (.invokevirtual 19, 3) := by decide +kernel
theorem dX2_isHeldByOther_12 : decode cX2_isHeldByOther 12 = .ok (.if_icmp .ge 104, 3) := by decide +kernel
theorem dX2_isHeldByOther_15 : decode cX2_isHeldByOther 15 = .ok (.aload_n 0, 1) := by decide +kernel
theorem dX2_isHeldByOther_16 : decode cX2_isHeldByOther 16 = .ok (.getfield 15, 3) := by decide +kernel
theorem dX2_isHeldByOther_19 : decode cX2_isHeldByOther 19 = .ok (.getfield 25, 3) := by decide +kernel
theorem dX2_isHeldByOther_22 : decode cX2_isHeldByOther 22 = .ok (.iload 4, 2) := by decide +kernel
theorem dX2_isHeldByOther_24 : decode cX2_isHeldByOther 24 = .ok (.invokevirtual 29, 3) := by decide +kernel
theorem dX2_isHeldByOther_27 : decode cX2_isHeldByOther 27 = .ok (.checkcast 35, 3) := by decide +kernel
theorem dX2_isHeldByOther_30 : decode cX2_isHeldByOther 30 = .ok (.astore 5, 2) := by decide +kernel
theorem dX2_isHeldByOther_32 : decode cX2_isHeldByOther 32 = .ok (.aload 5, 2) := by decide +kernel
theorem dX2_isHeldByOther_34 : decode cX2_isHeldByOther 34 = .ok (.iload_n 2, 1) := by decide +kernel
theorem dX2_isHeldByOther_35 : decode cX2_isHeldByOther 35 = .ok (.invokevirtual 89, 3) := by decide +kernel
theorem dX2_isHeldByOther_38 : decode cX2_isHeldByOther 38 = .ok (.istore 6, 2) := by decide +kernel
theorem dX2_isHeldByOther_40 : decode cX2_isHeldByOther 40 = .ok (.aload 5, 2) := by decide +kernel
theorem dX2_isHeldByOther_42 : decode cX2_isHeldByOther 42 = .ok (.aload_n 1, 1) := by decide +kernel
theorem dX2_isHeldByOther_43 : decode cX2_isHeldByOther 43 = .ok (.if_acmp .eq 67, 3) := by decide +kernel
theorem dX2_isHeldByOther_46 : decode cX2_isHeldByOther 46 = .ok (.aload 5, 2) := by decide +kernel
theorem dX2_isHeldByOther_48 : decode cX2_isHeldByOther 48 = .ok (.getfield 37, 3) := by decide +kernel
theorem dX2_isHeldByOther_51 : decode cX2_isHeldByOther 51 = .ok (.ifCond .eq 59, 3) := by decide +kernel
theorem dX2_isHeldByOther_54 : decode cX2_isHeldByOther 54 = .ok (.iload 6, 2) := by decide +kernel
theorem dX2_isHeldByOther_56 : decode cX2_isHeldByOther 56 = .ok (.iconst (-1), 1) := by decide +kernel
theorem dX2_isHeldByOther_57 : decode cX2_isHeldByOther 57 = .ok (.if_icmp .eq 53, 3) := by decide +kernel
theorem dX2_isHeldByOther_60 : decode cX2_isHeldByOther 60 = .ok (.aload_n 0, 1) := by decide +kernel
theorem dX2_isHeldByOther_61 : decode cX2_isHeldByOther 61 = .ok (.getfield 9, 3) := by decide +kernel
theorem dX2_isHeldByOther_64 : decode cX2_isHeldByOther 64 = .ok (.iload_n 2, 1) := by decide +kernel
theorem dX2_isHeldByOther_65 : decode cX2_isHeldByOther 65 = .ok (.aload_n 1, 1) := by decide +kernel
theorem dX2_isHeldByOther_66 : decode cX2_isHeldByOther 66 = .ok (.aload 5, 2) := by decide +kernel
theorem dX2_isHeldByOther_68 : decode cX2_isHeldByOther 68 = .ok (.invokevirtual 92, 3) := by decide +kernel
theorem dX2_isHeldByOther_71 : decode cX2_isHeldByOther 71 = .ok (.ifCond .eq 39, 3) := by decide +kernel
theorem dX2_isHeldByOther_74 : decode cX2_isHeldByOther 74 = .ok (.iload_n 3, 1) := by decide +kernel
theorem dX2_isHeldByOther_75 : decode cX2_isHeldByOther 75 = .ok (.aload 5, 2) := by decide +kernel
theorem dX2_isHeldByOther_77 : decode cX2_isHeldByOther 77 = .ok (.getfield 68, 3) := by decide +kernel
theorem dX2_isHeldByOther_80 : decode cX2_isHeldByOther 80 = .ok (.iload 6, 2) := by decide +kernel
theorem dX2_isHeldByOther_82 : decode cX2_isHeldByOther 82 = .ok (.iaload, 1) := by decide +kernel
theorem dX2_isHeldByOther_83 : decode cX2_isHeldByOther 83 = .ok (.if_icmp .lt 27, 3) := by decide +kernel
theorem dX2_isHeldByOther_86 : decode cX2_isHeldByOther 86 = .ok (.iload_n 3, 1) := by decide +kernel
theorem dX2_isHeldByOther_87 : decode cX2_isHeldByOther 87 = .ok (.aload 5, 2) := by decide +kernel
theorem dX2_isHeldByOther_89 : decode cX2_isHeldByOther 89 = .ok (.getfield 72, 3) := by decide +kernel
theorem dX2_isHeldByOther_92 : decode cX2_isHeldByOther 92 = .ok (.iload 6, 2) := by decide +kernel
theorem dX2_isHeldByOther_94 : decode cX2_isHeldByOther 94 = .ok (.iconst 1, 1) := by decide +kernel
theorem dX2_isHeldByOther_95 : decode cX2_isHeldByOther 95 = .ok (.iadd, 1) := by decide +kernel
theorem dX2_isHeldByOther_96 : decode cX2_isHeldByOther 96 = .ok (.iaload, 1) := by decide +kernel
theorem dX2_isHeldByOther_97 : decode cX2_isHeldByOther 97 = .ok (.aload_n 0, 1) := by decide +kernel
theorem dX2_isHeldByOther_98 : decode cX2_isHeldByOther 98 = .ok (.getfield 9, 3) := by decide +kernel
theorem dX2_isHeldByOther_101 : decode cX2_isHeldByOther 101 = .ok (.invokevirtual 96, 3) := by decide +kernel
theorem dX2_isHeldByOther_104 : decode cX2_isHeldByOther 104 = .ok (.iadd, 1) := by decide +kernel
theorem dX2_isHeldByOther_105 : decode cX2_isHeldByOther 105 = .ok (.if_icmp .ge 5, 3) := by decide +kernel
theorem dX2_isHeldByOther_108 : decode cX2_isHeldByOther 108 = .ok (.iconst 1, 1) := by decide +kernel
theorem dX2_isHeldByOther_109 : decode cX2_isHeldByOther 109 = .ok (.ireturn, 1) := by decide +kernel
theorem dX2_isHeldByOther_110 : decode cX2_isHeldByOther 110 = .ok (.iinc 4 1, 3) := by decide +kernel
theorem dX2_isHeldByOther_113 : decode cX2_isHeldByOther 113 = .ok (.goto (-110), 3) := by decide +kernel
theorem dX2_isHeldByOther_116 : decode cX2_isHeldByOther 116 = .ok (.iconst 0, 1) := by decide +kernel
theorem dX2_isHeldByOther_117 : decode cX2_isHeldByOther 117 = .ok (.ireturn, 1) := by decide +kernel
theorem dX2_firstCrowded_0 : decode cX2_firstCrowded 0 = .ok (.iconst 1, 1) := by decide +kernel
theorem dX2_firstCrowded_1 : decode cX2_firstCrowded 1 = .ok (.istore_n 2, 1) := by decide +kernel
theorem dX2_firstCrowded_2 : decode cX2_firstCrowded 2 = .ok (.iload_n 2, 1) := by decide +kernel
theorem dX2_firstCrowded_3 : decode cX2_firstCrowded 3 = .ok (.aload_n 1, 1) := by decide +kernel
theorem dX2_firstCrowded_4 : decode cX2_firstCrowded 4 = .ok (.invokevirtual 65, 3) := by decide +kernel
theorem dX2_firstCrowded_7 : decode cX2_firstCrowded 7 = .ok (.if_icmp .ge 62, 3) := by decide +kernel
theorem dX2_firstCrowded_10 : decode cX2_firstCrowded 10 = .ok (.aload_n 1, 1) := by decide +kernel
theorem dX2_firstCrowded_11 : decode cX2_firstCrowded 11 = .ok (.iload_n 2, 1) := by decide +kernel
theorem dX2_firstCrowded_12 : decode cX2_firstCrowded 12 = .ok (.invokevirtual 99, 3) := by decide +kernel
theorem dX2_firstCrowded_15 : decode cX2_firstCrowded 15 = .ok (.istore_n 3, 1) := by decide +kernel
theorem dX2_firstCrowded_16 : decode cX2_firstCrowded 16 = .ok (.aload_n 1, 1) := by decide +kernel
theorem dX2_firstCrowded_17 : decode cX2_firstCrowded 17 = .ok (.getfield 72, 3) := by decide +kernel
theorem dX2_firstCrowded_20 : decode cX2_firstCrowded 20 = .ok (.iload_n 2, 1) := by decide +kernel
theorem dX2_firstCrowded_21 : decode cX2_firstCrowded 21 = .ok (.iaload, 1) := by decide +kernel
theorem dX2_firstCrowded_22 : decode cX2_firstCrowded 22 = .ok (.istore 4, 2) := by decide +kernel
theorem dX2_firstCrowded_24 : decode cX2_firstCrowded 24 = .ok (.iload 4, 2) := by decide +kernel
theorem dX2_firstCrowded_26 : decode cX2_firstCrowded 26 = .ok (.aload_n 1, 1) := by decide +kernel
theorem dX2_firstCrowded_27 : decode cX2_firstCrowded 27 = .ok (.getfield 68, 3) := by decide +kernel
theorem dX2_firstCrowded_30 : decode cX2_firstCrowded 30 = .ok (.iload_n 2, 1) := by decide +kernel
theorem dX2_firstCrowded_31 : decode cX2_firstCrowded 31 = .ok (.iaload, 1) := by decide +kernel
theorem dX2_firstCrowded_32 : decode cX2_firstCrowded 32 = .ok (.if_icmp .ge 31, 3) := by decide +kernel
theorem dX2_firstCrowded_35 : decode cX2_firstCrowded 35 = .ok (.aload_n 0, 1) := by decide +kernel
theorem dX2_firstCrowded_36 : decode cX2_firstCrowded 36 = .ok (.iload_n 3, 1) := by decide +kernel
theorem dX2_firstCrowded_37 : decode cX2_firstCrowded 37 = .ok (.iload 4, 2) := by decide +kernel
theorem dX2_firstCrowded_39 : decode cX2_firstCrowded 39 = .ok (.invokevirtual 102, 3) := by decide +kernel
theorem dX2_firstCrowded_42 : decode cX2_firstCrowded 42 = .ok (.aload_n 0, 1) := by decide +kernel
theorem dX2_firstCrowded_43 : decode cX2_firstCrowded 43 = .ok (.getfield 9, 3) := by decide +kernel
theorem dX2_firstCrowded_46 : decode cX2_firstCrowded 46 = .ok (.getfield 106, 3) := by decide +kernel
theorem dX2_firstCrowded_49 : decode cX2_firstCrowded 49 = .ok (.iload_n 3, 1) := by decide +kernel
theorem dX2_firstCrowded_50 : decode cX2_firstCrowded 50 = .ok (.iaload, 1) := by decide +kernel
theorem dX2_firstCrowded_51 : decode cX2_firstCrowded 51 = .ok (.if_icmp .le 6, 3) := by decide +kernel
theorem dX2_firstCrowded_54 : decode cX2_firstCrowded 54 = .ok (.iload 4, 2) := by decide +kernel
theorem dX2_firstCrowded_56 : decode cX2_firstCrowded 56 = .ok (.ireturn, 1) := by decide +kernel
theorem dX2_firstCrowded_57 : decode cX2_firstCrowded 57 = .ok (.iinc 4 1, 3) := by decide +kernel
theorem dX2_firstCrowded_60 : decode cX2_firstCrowded 60 = .ok (.goto (-36), 3) := by decide +kernel
theorem dX2_firstCrowded_63 : decode cX2_firstCrowded 63 = .ok (.iinc 2 1, 3) := by decide +kernel
theorem dX2_firstCrowded_66 : decode cX2_firstCrowded 66 = .ok (.goto (-64), 3) := by decide +kernel
theorem dX2_firstCrowded_69 : decode cX2_firstCrowded 69 = .ok (.iconst (-1), 1) := by decide +kernel
theorem dX2_firstCrowded_70 : decode cX2_firstCrowded 70 = .ok (.ireturn, 1) := by decide +kernel
theorem dX2_standingAt_0 : decode cX2_standingAt 0 = .ok (.iconst 0, 1) := by decide +kernel
theorem dX2_standingAt_1 : decode cX2_standingAt 1 = .ok (.istore_n 3, 1) := by decide +kernel
theorem dX2_standingAt_2 : decode cX2_standingAt 2 = .ok (.iconst 0, 1) := by decide +kernel
theorem dX2_standingAt_3 : decode cX2_standingAt 3 = .ok (.istore 4, 2) := by decide +kernel
theorem dX2_standingAt_5 : decode cX2_standingAt 5 = .ok (.iload 4, 2) := by decide +kernel
theorem dX2_standingAt_7 : decode cX2_standingAt 7 = .ok (.aload_n 0, 1) := by decide +kernel
theorem dX2_standingAt_8 : decode cX2_standingAt 8 = .ok (.getfield 15, 3) := by decide +kernel
theorem dX2_standingAt_11 : decode cX2_standingAt 11 = .ok (.invokevirtual 19, 3) := by decide +kernel
theorem dX2_standingAt_14 : decode cX2_standingAt 14 = .ok (.if_icmp .ge 84, 3) := by decide +kernel
theorem dX2_standingAt_17 : decode cX2_standingAt 17 = .ok (.aload_n 0, 1) := by decide +kernel
theorem dX2_standingAt_18 : decode cX2_standingAt 18 = .ok (.getfield 15, 3) := by decide +kernel
theorem dX2_standingAt_21 : decode cX2_standingAt 21 = .ok (.getfield 25, 3) := by decide +kernel
theorem dX2_standingAt_24 : decode cX2_standingAt 24 = .ok (.iload 4, 2) := by decide +kernel
theorem dX2_standingAt_26 : decode cX2_standingAt 26 = .ok (.invokevirtual 29, 3) := by decide +kernel
theorem dX2_standingAt_29 : decode cX2_standingAt 29 = .ok (.checkcast 35, 3) := by decide +kernel
theorem dX2_standingAt_32 : decode cX2_standingAt 32 = .ok (.astore 5, 2) := by decide +kernel
theorem dX2_standingAt_34 : decode cX2_standingAt 34 = .ok (.aload 5, 2) := by decide +kernel
theorem dX2_standingAt_36 : decode cX2_standingAt 36 = .ok (.iload_n 1, 1) := by decide +kernel
theorem dX2_standingAt_37 : decode cX2_standingAt 37 = .ok (.invokevirtual 109, 3) := by decide +kernel
theorem dX2_standingAt_40 : decode cX2_standingAt 40 = .ok (.istore 6, 2) := by decide +kernel
theorem dX2_standingAt_42 : decode cX2_standingAt 42 = .ok (.aload 5, 2) := by decide +kernel
theorem dX2_standingAt_44 : decode cX2_standingAt 44 = .ok (.getfield 37, 3) := by decide +kernel
theorem dX2_standingAt_47 : decode cX2_standingAt 47 = .ok (.ifCond .eq 45, 3) := by decide +kernel
theorem dX2_standingAt_50 : decode cX2_standingAt 50 = .ok (.iload 6, 2) := by decide +kernel
theorem dX2_standingAt_52 : decode cX2_standingAt 52 = .ok (.ifCond .le 40, 3) := by decide +kernel
theorem dX2_standingAt_55 : decode cX2_standingAt 55 = .ok (.iload 6, 2) := by decide +kernel
theorem dX2_standingAt_57 : decode cX2_standingAt 57 = .ok (.aload 5, 2) := by decide +kernel
theorem dX2_standingAt_59 : decode cX2_standingAt 59 = .ok (.invokevirtual 65, 3) := by decide +kernel
theorem dX2_standingAt_62 : decode cX2_standingAt 62 = .ok (.if_icmp .ge 30, 3) := by decide +kernel
theorem dX2_standingAt_65 : decode cX2_standingAt 65 = .ok (.iload_n 2, 1) := by decide +kernel
theorem dX2_standingAt_66 : decode cX2_standingAt 66 = .ok (.aload 5, 2) := by decide +kernel
theorem dX2_standingAt_68 : decode cX2_standingAt 68 = .ok (.getfield 72, 3) := by decide +kernel
theorem dX2_standingAt_71 : decode cX2_standingAt 71 = .ok (.iload 6, 2) := by decide +kernel
theorem dX2_standingAt_73 : decode cX2_standingAt 73 = .ok (.iaload, 1) := by decide +kernel
theorem dX2_standingAt_74 : decode cX2_standingAt 74 = .ok (.if_icmp .lt 18, 3) := by decide +kernel
theorem dX2_standingAt_77 : decode cX2_standingAt 77 = .ok (.iload_n 2, 1) := by decide +kernel
theorem dX2_standingAt_78 : decode cX2_standingAt 78 = .ok (.aload 5, 2) := by decide +kernel
theorem dX2_standingAt_80 : decode cX2_standingAt 80 = .ok (.getfield 68, 3) := by decide +kernel
theorem dX2_standingAt_83 : decode cX2_standingAt 83 = .ok (.iload 6, 2) := by decide +kernel
theorem dX2_standingAt_85 : decode cX2_standingAt 85 = .ok (.iaload, 1) := by decide +kernel
theorem dX2_standingAt_86 : decode cX2_standingAt 86 = .ok (.if_icmp .ge 6, 3) := by decide +kernel
theorem dX2_standingAt_89 : decode cX2_standingAt 89 = .ok (.iinc 3 1, 3) := by decide +kernel
theorem dX2_standingAt_92 : decode cX2_standingAt 92 = .ok (.iinc 4 1, 3) := by decide +kernel
theorem dX2_standingAt_95 : decode cX2_standingAt 95 = .ok (.goto (-90), 3) := by decide +kernel
theorem dX2_standingAt_98 : decode cX2_standingAt 98 = .ok (.iload_n 3, 1) := by decide +kernel
theorem dX2_standingAt_99 : decode cX2_standingAt 99 = .ok (.ireturn, 1) := by decide +kernel
theorem dX3_init_0 : decode cX3_init 0 = .ok (.aload_n 0, 1) := by decide +kernel
theorem dX3_init_1 : decode cX3_init 1 = .ok (.invokespecial 3, 3) := by decide +kernel
theorem dX3_init_4 : decode cX3_init 4 = .ok (.aload_n 0, 1) := by decide +kernel
theorem dX3_init_5 : decode cX3_init 5 = .ok (.bipush 8, 2) := by decide +kernel
theorem dX3_init_7 : decode cX3_init 7 = .ok (.newarray .boolean, 2) := by decide +kernel
theorem dX3_init_9 : decode cX3_init 9 = .ok (.putfield 9, 3) := by decide +kernel
theorem dX3_init_12 : decode cX3_init 12 = .ok (.aload_n 0, 1) := by decide +kernel
theorem dX3_init_13 : decode cX3_init 13 = .ok (.bipush 8, 2) := by decide +kernel
theorem dX3_init_15 : decode cX3_init 15 = .ok (.newarray .int, 2) := by decide +kernel
theorem dX3_init_17 : decode cX3_init 17 = .ok (.putfield 15, 3) := by decide +kernel
theorem dX3_init_20 : decode cX3_init 20 = .ok (.aload_n 0, 1) := by decide +kernel
theorem dX3_init_21 : decode cX3_init 21 = .ok (.bipush 8, 2) := by decide +kernel
theorem dX3_init_23 : decode cX3_init 23 = .ok (.newarray .int, 2) := by decide +kernel
theorem dX3_init_25 : decode cX3_init 25 = .ok (.putfield 19, 3) := by decide +kernel
theorem dX3_init_28 : decode cX3_init 28 = .ok (.aload_n 0, 1) := by decide +kernel
theorem dX3_init_29 : decode cX3_init 29 = .ok (.bipush 8, 2) := by decide +kernel
theorem dX3_init_31 : decode cX3_init 31 = .ok (.newarray .int, 2) := by decide +kernel
theorem dX3_init_33 : decode cX3_init 33 = .ok (.putfield 22, 3) := by decide +kernel
theorem dX3_init_36 : decode cX3_init 36 = .ok (.aload_n 0, 1) := by decide +kernel
theorem dX3_init_37 : decode cX3_init 37 = .ok (.bipush 10, 2) := by decide +kernel
theorem dX3_init_39 : decode cX3_init 39 = .ok (.newarray .int, 2) := by decide +kernel
theorem dX3_init_41 : decode cX3_init 41 = .ok (.putfield 25, 3) := by decide +kernel
theorem dX3_init_44 : decode cX3_init 44 = .ok (.aload_n 0, 1) := by decide +kernel
theorem dX3_init_45 : decode cX3_init 45 = .ok (.bipush 10, 2) := by decide +kernel
theorem dX3_init_47 : decode cX3_init 47 = .ok (.newarray .int, 2) := by decide +kernel
theorem dX3_init_49 : decode cX3_init 49 = .ok (.putfield 28, 3) := by decide +kernel
theorem dX3_init_52 : decode cX3_init 52 = .ok (.aload_n 0, 1) := by decide +kernel
theorem dX3_init_53 : decode cX3_init 53 = .ok (.bipush 10, 2) := by decide +kernel
theorem dX3_init_55 : decode cX3_init 55 = .ok (.newarray .int, 2) := by decide +kernel
theorem dX3_init_57 : decode cX3_init 57 = .ok (.putfield 31, 3) := by decide +kernel
theorem dX3_init_60 : decode cX3_init 60 = .ok (.aload_n 0, 1) := by decide +kernel
theorem dX3_init_61 : decode cX3_init 61 = .ok (.iconst 1, 1) := by decide +kernel
theorem dX3_init_62 : decode cX3_init 62 = .ok (.putfield 34, 3) := by decide +kernel
theorem dX3_init_65 : decode cX3_init 65 = .ok (.aload_n 0, 1) := by decide +kernel
theorem dX3_init_66 : decode cX3_init 66 = .ok (.iload_n 1, 1) := by decide +kernel
theorem dX3_init_67 : decode cX3_init 67 = .ok (.putfield 38, 3) := by decide +kernel
theorem dX3_init_70 : decode cX3_init 70 = .ok (.iconst 0, 1) := by decide +kernel
theorem dX3_init_71 : decode cX3_init 71 = .ok (.istore_n 2, 1) := by decide +kernel
theorem dX3_init_72 : decode cX3_init 72 = .ok (.iload_n 2, 1) := by decide +kernel
theorem dX3_init_73 : decode cX3_init 73 = .ok (.bipush 8, 2) := by decide +kernel
theorem dX3_init_75 : decode cX3_init 75 = .ok (.if_icmp .ge 31, 3) := by decide +kernel
theorem dX3_init_78 : decode cX3_init 78 = .ok (.aload_n 0, 1) := by decide +kernel
theorem dX3_init_79 : decode cX3_init 79 = .ok (.getfield 15, 3) := by decide +kernel
theorem dX3_init_82 : decode cX3_init 82 = .ok (.iload_n 2, 1) := by decide +kernel
theorem dX3_init_83 : decode cX3_init 83 = .ok (.iconst 5, 1) := by decide +kernel
theorem dX3_init_84 : decode cX3_init 84 = .ok (.iastore, 1) := by decide +kernel
theorem dX3_init_85 : decode cX3_init 85 = .ok (.aload_n 0, 1) := by decide +kernel
theorem dX3_init_86 : decode cX3_init 86 = .ok (.getfield 19, 3) := by decide +kernel
theorem dX3_init_89 : decode cX3_init 89 = .ok (.iload_n 2, 1) := by decide +kernel
theorem dX3_init_90 : decode cX3_init 90 = .ok (.bipush 8, 2) := by decide +kernel
theorem dX3_init_92 : decode cX3_init 92 = .ok (.iastore, 1) := by decide +kernel
theorem dX3_init_93 : decode cX3_init 93 = .ok (.aload_n 0, 1) := by decide +kernel
theorem dX3_init_94 : decode cX3_init 94 = .ok (.getfield 22, 3) := by decide +kernel
theorem dX3_init_97 : decode cX3_init 97 = .ok (.iload_n 2, 1) := by decide +kernel
theorem dX3_init_98 : decode cX3_init 98 = .ok (.iconst 2, 1) := by decide +kernel
theorem dX3_init_99 : decode cX3_init 99 = .ok (.iastore, 1) := by decide +kernel
theorem dX3_init_100 : decode cX3_init 100 = .ok (.iinc 2 1, 3) := by decide +kernel
theorem dX3_init_103 : decode cX3_init 103 = .ok (.goto (-31), 3) := by decide +kernel
theorem dX3_init_106 : decode cX3_init 106 = .ok (.return_, 1) := by decide +kernel
theorem dX3_hasStation_0 : decode cX3_hasStation 0 = .ok (.iload_n 1, 1) := by decide +kernel
theorem dX3_hasStation_1 : decode cX3_hasStation 1 = .ok (.ifCond .lt 15, 3) := by decide +kernel
theorem dX3_hasStation_4 : decode cX3_hasStation 4 = .ok (.iload_n 1, 1) := by decide +kernel
theorem dX3_hasStation_5 : decode cX3_hasStation 5 = .ok (.aload_n 0, 1) := by decide +kernel
theorem dX3_hasStation_6 : decode cX3_hasStation 6 = .ok (.getfield 38, 3) := by decide +kernel
theorem dX3_hasStation_9 : decode cX3_hasStation 9 = .ok (.if_icmp .ge 7, 3) := by decide +kernel
theorem dX3_hasStation_12 : decode cX3_hasStation 12 = .ok (.iconst 1, 1) := by decide +kernel
theorem dX3_hasStation_13 : decode cX3_hasStation 13 = .ok (.goto 4, 3) := by decide +kernel
theorem dX3_hasStation_16 : decode cX3_hasStation 16 = .ok (.iconst 0, 1) := by decide +kernel
theorem dX3_hasStation_17 : decode cX3_hasStation 17 = .ok (.ireturn, 1) := by decide +kernel
theorem dX3_hasSection_0 : decode cX3_hasSection 0 = .ok (.iload_n 1, 1) := by decide +kernel
theorem dX3_hasSection_1 : decode cX3_hasSection 1 = .ok (.ifCond .lt 17, 3) := by decide +kernel
theorem dX3_hasSection_4 : decode cX3_hasSection 4 = .ok (.iload_n 1, 1) := by decide +kernel
theorem dX3_hasSection_5 : decode cX3_hasSection 5 = .ok (.aload_n 0, 1) := by decide +kernel
theorem dX3_hasSection_6 : decode cX3_hasSection 6 = .ok (.getfield 38, 3) := by decide +kernel
theorem dX3_hasSection_9 : decode cX3_hasSection 9 = .ok (.iconst 1, 1) := by decide +kernel
theorem dX3_hasSection_10 : decode cX3_hasSection 10 = .ok (.isub, 1) := by decide +kernel
theorem dX3_hasSection_11 : decode cX3_hasSection 11 = .ok (.if_icmp .ge 7, 3) := by decide +kernel
theorem dX3_hasSection_14 : decode cX3_hasSection 14 = .ok (.iconst 1, 1) := by decide +kernel
theorem dX3_hasSection_15 : decode cX3_hasSection 15 = .ok (.goto 4, 3) := by decide +kernel
theorem dX3_hasSection_18 : decode cX3_hasSection 18 = .ok (.iconst 0, 1) := by decide +kernel
theorem dX3_hasSection_19 : decode cX3_hasSection 19 = .ok (.ireturn, 1) := by decide +kernel
theorem dX3_setSection_0 : decode cX3_setSection 0 = .ok (.aload_n 0, 1) := by decide +kernel
theorem dX3_setSection_1 : decode cX3_setSection 1 = .ok (.getfield 9, 3) := by decide +kernel
theorem dX3_setSection_4 : decode cX3_setSection 4 = .ok (.iload_n 1, 1) := by decide +kernel
theorem dX3_setSection_5 : decode cX3_setSection 5 = .ok (.iload_n 2, 1) := by decide +kernel
theorem dX3_setSection_6 : decode cX3_setSection 6 = .ok (.bastore, 1) := by decide +kernel
theorem dX3_setSection_7 : decode cX3_setSection 7 = .ok (.aload_n 0, 1) := by decide +kernel
theorem dX3_setSection_8 : decode cX3_setSection 8 = .ok (.getfield 15, 3) := by decide +kernel
theorem dX3_setSection_11 : decode cX3_setSection 11 = .ok (.iload_n 1, 1) := by decide +kernel
theorem dX3_setSection_12 : decode cX3_setSection 12 = .ok (.iload_n 3, 1) := by decide +kernel
theorem dX3_setSection_13 : decode cX3_setSection 13 = .ok (.iastore, 1) := by decide +kernel
theorem dX3_setSection_14 : decode cX3_setSection 14 = .ok (.aload_n 0, 1) := by decide +kernel
theorem dX3_setSection_15 : decode cX3_setSection 15 = .ok (.getfield 19, 3) := by decide +kernel
theorem dX3_setSection_18 : decode cX3_setSection 18 = .ok (.iload_n 1, 1) := by decide +kernel
theorem dX3_setSection_19 : decode cX3_setSection 19 = .ok (.iload 4, 2) := by decide +kernel
theorem dX3_setSection_21 : decode cX3_setSection 21 = .ok (.iastore, 1) := by decide +kernel
theorem dX3_setSection_22 : decode cX3_setSection 22 = .ok (.return_, 1) := by decide +kernel
theorem dX3_addWorks_0 : decode cX3_addWorks 0 = .ok (.aload_n 0, 1) := by decide +kernel
theorem dX3_addWorks_1 : decode cX3_addWorks 1 = .ok (.getfield 25, 3) := by decide +kernel
theorem dX3_addWorks_4 : decode cX3_addWorks 4 = .ok (.aload_n 0, 1) := by decide +kernel
theorem dX3_addWorks_5 : decode cX3_addWorks 5 = .ok (.getfield 41, 3) := by decide +kernel
theorem dX3_addWorks_8 : decode cX3_addWorks 8 = .ok (.iload_n 1, 1) := by decide +kernel
theorem dX3_addWorks_9 : decode cX3_addWorks 9 = .ok (.iastore, 1) := by decide +kernel
theorem dX3_addWorks_10 : decode cX3_addWorks 10 = .ok (.aload_n 0, 1) := by decide +kernel
theorem dX3_addWorks_11 : decode cX3_addWorks 11 = .ok (.getfield 28, 3) := by decide +kernel
theorem dX3_addWorks_14 : decode cX3_addWorks 14 = .ok (.aload_n 0, 1) := by decide +kernel
theorem dX3_addWorks_15 : decode cX3_addWorks 15 = .ok (.getfield 41, 3) := by decide +kernel
theorem dX3_addWorks_18 : decode cX3_addWorks 18 = .ok (.iload_n 2, 1) := by decide +kernel
theorem dX3_addWorks_19 : decode cX3_addWorks 19 = .ok (.iastore, 1) := by decide +kernel
theorem dX3_addWorks_20 : decode cX3_addWorks 20 = .ok (.aload_n 0, 1) := by decide +kernel
theorem dX3_addWorks_21 : decode cX3_addWorks 21 = .ok (.getfield 31, 3) := by decide +kernel
theorem dX3_addWorks_24 : decode cX3_addWorks 24 = .ok (.aload_n 0, 1) := by decide +kernel
theorem dX3_addWorks_25 : decode cX3_addWorks 25 = .ok (.getfield 41, 3) := by decide +kernel
theorem dX3_addWorks_28 : decode cX3_addWorks 28 = .ok (.iload_n 3, 1) := by decide +kernel
theorem dX3_addWorks_29 : decode cX3_addWorks 29 = .ok (.iastore, 1) := by decide +kernel
theorem dX3_addWorks_30 : decode cX3_addWorks 30 = .ok (.aload_n 0, 1) := by decide +kernel
theorem dX3_addWorks_31 : decode cX3_addWorks 31 = .ok (.dup, 1) := by decide +kernel
theorem dX3_addWorks_32 : decode cX3_addWorks 32 = .ok (.getfield 41, 3) := by decide +kernel
theorem dX3_addWorks_35 : decode cX3_addWorks 35 = .ok (.iconst 1, 1) := by decide +kernel
theorem dX3_addWorks_36 : decode cX3_addWorks 36 = .ok (.iadd, 1) := by decide +kernel
theorem dX3_addWorks_37 : decode cX3_addWorks 37 = .ok (.putfield 41, 3) := by decide +kernel
theorem dX3_addWorks_40 : decode cX3_addWorks 40 = .ok (.return_, 1) := by decide +kernel
theorem dX3_isClosed_0 : decode cX3_isClosed 0 = .ok (.iconst 0, 1) := by decide +kernel
theorem dX3_isClosed_1 : decode cX3_isClosed 1 = .ok (.istore_n 3, 1) := by decide +kernel
theorem dX3_isClosed_2 : decode cX3_isClosed 2 = .ok (.iload_n 3, 1) := by decide +kernel
theorem dX3_isClosed_3 : decode cX3_isClosed 3 = .ok (.aload_n 0, 1) := by decide +kernel
theorem dX3_isClosed_4 : decode cX3_isClosed 4 = .ok (.getfield 41, 3) := by decide +kernel
theorem dX3_isClosed_7 : decode cX3_isClosed 7 = .ok (.if_icmp .ge 41, 3) := by decide +kernel
theorem dX3_isClosed_10 : decode cX3_isClosed 10 = .ok (.aload_n 0, 1) := by decide +kernel
theorem dX3_isClosed_11 : decode cX3_isClosed 11 = .ok (.getfield 25, 3) := by decide +kernel
theorem dX3_isClosed_14 : decode cX3_isClosed 14 = .ok (.iload_n 3, 1) := by decide +kernel
theorem dX3_isClosed_15 : decode cX3_isClosed 15 = .ok (.iaload, 1) := by decide +kernel
theorem dX3_isClosed_16 : decode cX3_isClosed 16 = .ok (.iload_n 1, 1) := by decide +kernel
theorem dX3_isClosed_17 : decode cX3_isClosed 17 = .ok (.if_icmp .ne 25, 3) := by decide +kernel
theorem dX3_isClosed_20 : decode cX3_isClosed 20 = .ok (.iload_n 2, 1) := by decide +kernel
theorem dX3_isClosed_21 : decode cX3_isClosed 21 = .ok (.aload_n 0, 1) := by decide +kernel
theorem dX3_isClosed_22 : decode cX3_isClosed 22 = .ok (.getfield 28, 3) := by decide +kernel
theorem dX3_isClosed_25 : decode cX3_isClosed 25 = .ok (.iload_n 3, 1) := by decide +kernel
theorem dX3_isClosed_26 : decode cX3_isClosed 26 = .ok (.iaload, 1) := by decide +kernel
theorem dX3_isClosed_27 : decode cX3_isClosed 27 = .ok (.if_icmp .lt 15, 3) := by decide +kernel
theorem dX3_isClosed_30 : decode cX3_isClosed 30 = .ok (.iload_n 2, 1) := by decide +kernel
theorem dX3_isClosed_31 : decode cX3_isClosed 31 = .ok (.aload_n 0, 1) := by decide +kernel
theorem dX3_isClosed_32 : decode cX3_isClosed 32 = .ok (.getfield 31, 3) := by decide +kernel
theorem dX3_isClosed_35 : decode cX3_isClosed 35 = .ok (.iload_n 3, 1) := by decide +kernel
theorem dX3_isClosed_36 : decode cX3_isClosed 36 = .ok (.iaload, 1) := by decide +kernel
theorem dX3_isClosed_37 : decode cX3_isClosed 37 = .ok (.if_icmp .ge 5, 3) := by decide +kernel
theorem dX3_isClosed_40 : decode cX3_isClosed 40 = .ok (.iconst 1, 1) := by decide +kernel
theorem dX3_isClosed_41 : decode cX3_isClosed 41 = .ok (.ireturn, 1) := by decide +kernel
theorem dX3_isClosed_42 : decode cX3_isClosed 42 = .ok (.iinc 3 1, 3) := by decide +kernel
theorem dX3_isClosed_45 : decode cX3_isClosed 45 = .ok (.goto (-43), 3) := by decide +kernel
theorem dX3_isClosed_48 : decode cX3_isClosed 48 = .ok (.iconst 0, 1) := by decide +kernel
theorem dX3_isClosed_49 : decode cX3_isClosed 49 = .ok (.ireturn, 1) := by decide +kernel
theorem dX3_holdBehind_0 : decode cX3_holdBehind 0 = .ok (.iconst 0, 1) := by decide +kernel
theorem dX3_holdBehind_1 : decode cX3_holdBehind 1 = .ok (.aload_n 0, 1) := by decide +kernel
theorem dX3_holdBehind_2 : decode cX3_holdBehind 2 = .ok (.getfield 34, 3) := by decide +kernel
theorem dX3_holdBehind_5 : decode cX3_holdBehind 5 = .ok (.iconst 1, 1) := by decide +kernel
theorem dX3_holdBehind_6 : decode cX3_holdBehind 6 = .ok (.isub, 1) := by decide +kernel
theorem dX3_holdBehind_7 : decode cX3_holdBehind 7 = .ok (.invokestatic 44, 3) := by decide +kernel
theorem dX3_holdBehind_10 : decode cX3_holdBehind 10 = .ok (.ireturn, 1) := by decide +kernel
theorem dX3_isShared_0 : decode cX3_isShared 0 = .ok (.aload_n 0, 1) := by decide +kernel
theorem dX3_isShared_1 : decode cX3_isShared 1 = .ok (.getfield 9, 3) := by decide +kernel
theorem dX3_isShared_4 : decode cX3_isShared 4 = .ok (.iload_n 1, 1) := by decide +kernel
theorem dX3_isShared_5 : decode cX3_isShared 5 = .ok (.baload, 1) := by decide +kernel
theorem dX3_isShared_6 : decode cX3_isShared 6 = .ok (.ifCond .eq 14, 3) := by decide +kernel
theorem dX3_isShared_9 : decode cX3_isShared 9 = .ok (.aload_n 2, 1) := by decide +kernel
theorem dX3_isShared_10 : decode cX3_isShared 10 = .ok (.invokevirtual 50, 3) := by decide +kernel
theorem dX3_isShared_13 : decode cX3_isShared 13 = .ok (.aload_n 3, 1) := by decide +kernel
theorem dX3_isShared_14 : decode cX3_isShared 14 = .ok (.invokevirtual 50, 3) := by decide +kernel
theorem dX3_isShared_17 : decode cX3_isShared 17 = .ok (.if_icmp .ne 7, 3) := by decide +kernel
theorem dX3_isShared_20 : decode cX3_isShared 20 = .ok (.iconst 1, 1) := by decide +kernel
theorem dX3_isShared_21 : decode cX3_isShared 21 = .ok (.goto 4, 3) := by decide +kernel
theorem dX3_isShared_24 : decode cX3_isShared 24 = .ok (.iconst 0, 1) := by decide +kernel
theorem dX3_isShared_25 : decode cX3_isShared 25 = .ok (.ireturn, 1) := by decide +kernel
theorem dX3_lengthOf_0 : decode cX3_lengthOf 0 = .ok (.aload_n 1, 1) := by decide +kernel
theorem dX3_lengthOf_1 : decode cX3_lengthOf 1 = .ok (.iload_n 2, 1) := by decide +kernel
theorem dX3_lengthOf_2 : decode cX3_lengthOf 2 = .ok (.invokevirtual 56, 3) := by decide +kernel
theorem dX3_lengthOf_5 : decode cX3_lengthOf 5 = .ok (.istore_n 3, 1) := by decide +kernel
theorem dX3_lengthOf_6 : decode cX3_lengthOf 6 = .ok (.aload_n 1, 1) := by decide +kernel
theorem dX3_lengthOf_7 : decode cX3_lengthOf 7 = .ok (.getfield 60, 3) := by decide +kernel
theorem dX3_lengthOf_10 : decode cX3_lengthOf 10 = .ok (.ifCond .ne 12, 3) := by decide +kernel
theorem dX3_lengthOf_13 : decode cX3_lengthOf 13 = .ok (.aload_n 0, 1) := by decide +kernel
theorem dX3_lengthOf_14 : decode cX3_lengthOf 14 = .ok (.getfield 15, 3) := by decide +kernel
theorem dX3_lengthOf_17 : decode cX3_lengthOf 17 = .ok (.iload_n 3, 1) := by decide +kernel
theorem dX3_lengthOf_18 : decode cX3_lengthOf 18 = .ok (.iaload, 1) := by decide +kernel
theorem dX3_lengthOf_19 : decode cX3_lengthOf 19 = .ok (.goto 9, 3) := by decide +kernel
theorem dX3_lengthOf_22 : decode cX3_lengthOf 22 = .ok (.aload_n 0, 1) := by decide +kernel
theorem dX3_lengthOf_23 : decode cX3_lengthOf 23 = .ok (.getfield 19, 3) := by decide +kernel
theorem dX3_lengthOf_26 : decode cX3_lengthOf 26 = .ok (.iload_n 3, 1) := by decide +kernel
theorem dX3_lengthOf_27 : decode cX3_lengthOf 27 = .ok (.iaload, 1) := by decide +kernel
theorem dX3_lengthOf_28 : decode cX3_lengthOf 28 = .ok (.ireturn, 1) := by decide +kernel
theorem dX4_init_0 : decode cX4_init 0 = .ok (.aload_n 0, 1) := by decide +kernel
theorem dX4_init_1 : decode cX4_init 1 = .ok (.invokespecial 3, 3) := by decide +kernel
theorem dX4_init_4 : decode cX4_init 4 = .ok (.aload_n 0, 1) := by decide +kernel
theorem dX4_init_5 : decode cX4_init 5 = .ok (.sipush 1920, 3) := by decide +kernel
theorem dX4_init_8 : decode cX4_init 8 = .ok (.newarray .boolean, 2) := by decide +kernel
theorem dX4_init_10 : decode cX4_init 10 = .ok (.putfield 9, 3) := by decide +kernel
theorem dX4_init_13 : decode cX4_init 13 = .ok (.aload_n 0, 1) := by decide +kernel
theorem dX4_init_14 : decode cX4_init 14 = .ok (.sipush 240, 3) := by decide +kernel
theorem dX4_init_17 : decode cX4_init 17 = .ok (.newarray .boolean, 2) := by decide +kernel
theorem dX4_init_19 : decode cX4_init 19 = .ok (.putfield 15, 3) := by decide +kernel
theorem dX4_init_22 : decode cX4_init 22 = .ok (.aload_n 0, 1) := by decide +kernel
theorem dX4_init_23 : decode cX4_init 23 = .ok (.sipush 240, 3) := by decide +kernel
theorem dX4_init_26 : decode cX4_init 26 = .ok (.newarray .int, 2) := by decide +kernel
theorem dX4_init_28 : decode cX4_init 28 = .ok (.putfield 18, 3) := by decide +kernel
theorem dX4_init_31 : decode cX4_init 31 = .ok (.aload_n 0, 1) := by decide +kernel
theorem dX4_init_32 : decode cX4_init 32 = .ok (.bipush 8, 2) := by decide +kernel
theorem dX4_init_34 : decode cX4_init 34 = .ok (.newarray .int, 2) := by decide +kernel
theorem dX4_init_36 : decode cX4_init 36 = .ok (.putfield 22, 3) := by decide +kernel
theorem dX4_init_39 : decode cX4_init 39 = .ok (.aload_n 0, 1) := by decide +kernel
theorem dX4_init_40 : decode cX4_init 40 = .ok (.bipush 8, 2) := by decide +kernel
theorem dX4_init_42 : decode cX4_init 42 = .ok (.newarray .int, 2) := by decide +kernel
theorem dX4_init_44 : decode cX4_init 44 = .ok (.putfield 25, 3) := by decide +kernel
theorem dX4_init_47 : decode cX4_init 47 = .ok (.aload_n 0, 1) := by decide +kernel
theorem dX4_init_48 : decode cX4_init 48 = .ok (.aload_n 1, 1) := by decide +kernel
theorem dX4_init_49 : decode cX4_init 49 = .ok (.putfield 28, 3) := by decide +kernel
theorem dX4_init_52 : decode cX4_init 52 = .ok (.aload_n 0, 1) := by decide +kernel
theorem dX4_init_53 : decode cX4_init 53 = .ok (.aload_n 2, 1) := by decide +kernel
theorem dX4_init_54 : decode cX4_init 54 = .ok (.putfield 32, 3) := by decide +kernel
theorem dX4_init_57 : decode cX4_init 57 = .ok (.return_, 1) := by decide +kernel
theorem dX4_endFor_0 : decode cX4_endFor 0 = .ok (.aload_n 1, 1) := by decide +kernel
theorem dX4_endFor_1 : decode cX4_endFor 1 = .ok (.getfield 36, 3) := by decide +kernel
theorem dX4_endFor_4 : decode cX4_endFor 4 = .ok (.aload_n 1, 1) := by decide +kernel
theorem dX4_endFor_5 : decode cX4_endFor 5 = .ok (.getfield 42, 3) := by decide +kernel
theorem dX4_endFor_8 : decode cX4_endFor 8 = .ok (.if_icmp .le 5, 3) := by decide +kernel
theorem dX4_endFor_11 : decode cX4_endFor 11 = .ok (.iconst (-1), 1) := by decide +kernel
theorem dX4_endFor_12 : decode cX4_endFor 12 = .ok (.ireturn, 1) := by decide +kernel
theorem dX4_endFor_13 : decode cX4_endFor 13 = .ok (.aload_n 1, 1) := by decide +kernel
theorem dX4_endFor_14 : decode cX4_endFor 14 = .ok (.invokevirtual 45, 3) := by decide +kernel
theorem dX4_endFor_17 : decode cX4_endFor 17 = .ok (.istore_n 2, 1) := by decide +kernel
theorem dX4_endFor_18 : decode cX4_endFor 18 = .ok (.iconst 0, 1) := by decide +kernel
theorem dX4_endFor_19 : decode cX4_endFor 19 = .ok (.istore_n 3, 1) := by decide +kernel
theorem dX4_endFor_20 : decode cX4_endFor 20 = .ok (.iload_n 3, 1) := by decide +kernel
theorem dX4_endFor_21 : decode cX4_endFor 21 = .ok (.iload_n 2, 1) := by decide +kernel
theorem dX4_endFor_22 : decode cX4_endFor 22 = .ok (.if_icmp .ge 46, 3) := by decide +kernel
theorem dX4_endFor_25 : decode cX4_endFor 25 = .ok (.aload_n 0, 1) := by decide +kernel
theorem dX4_endFor_26 : decode cX4_endFor 26 = .ok (.aload_n 1, 1) := by decide +kernel
theorem dX4_endFor_27 : decode cX4_endFor 27 = .ok (.invokevirtual 49, 3) := by decide +kernel
theorem dX4_endFor_30 : decode cX4_endFor 30 = .ok (.aload_n 0, 1) := by decide +kernel
theorem dX4_endFor_31 : decode cX4_endFor 31 = .ok (.aload_n 1, 1) := by decide +kernel
theorem dX4_endFor_32 : decode cX4_endFor 32 = .ok (.iload_n 3, 1) := by decide +kernel
theorem dX4_endFor_33 : decode cX4_endFor 33 = .ok (.invokevirtual 53, 3) := by decide +kernel
theorem dX4_endFor_36 : decode cX4_endFor 36 = .ok (.aload_n 0, 1) := by decide +kernel
theorem dX4_endFor_37 : decode cX4_endFor 37 = .ok (.aload_n 1, 1) := by decide +kernel
theorem dX4_endFor_38 : decode cX4_endFor 38 = .ok (.iload_n 3, 1) := by decide +kernel
theorem dX4_endFor_39 : decode cX4_endFor 39 = .ok (.invokevirtual 57, 3) := by decide +kernel
theorem dX4_endFor_42 : decode cX4_endFor 42 = .ok (.aload_n 0, 1) := by decide +kernel
theorem dX4_endFor_43 : decode cX4_endFor 43 = .ok (.aload_n 1, 1) := by decide +kernel
theorem dX4_endFor_44 : decode cX4_endFor 44 = .ok (.iload_n 3, 1) := by decide +kernel
theorem dX4_endFor_45 : decode cX4_endFor 45 = .ok (.invokevirtual 60, 3) := by decide +kernel
theorem dX4_endFor_48 : decode cX4_endFor 48 = .ok (.aload_n 0, 1) := by decide +kernel
theorem dX4_endFor_49 : decode cX4_endFor 49 = .ok (.aload_n 1, 1) := by decide +kernel
theorem dX4_endFor_50 : decode cX4_endFor 50 = .ok (.iload_n 3, 1) := by decide +kernel
theorem dX4_endFor_51 : decode cX4_endFor 51 = .ok (.iconst 1, 1) := by decide +kernel
theorem dX4_endFor_52 : decode cX4_endFor 52 = .ok (.iadd, 1) := by decide +kernel
theorem dX4_endFor_53 : decode cX4_endFor 53 = .ok (.invokevirtual 63, 3) := by decide +kernel
theorem dX4_endFor_56 : decode cX4_endFor 56 = .ok (.aload_n 0, 1) := by decide +kernel
theorem dX4_endFor_57 : decode cX4_endFor 57 = .ok (.aload_n 1, 1) := by decide +kernel
theorem dX4_endFor_58 : decode cX4_endFor 58 = .ok (.iload_n 3, 1) := by decide +kernel
theorem dX4_endFor_59 : decode cX4_endFor 59 = .ok (.invokevirtual 66, 3) := by decide +kernel
theorem dX4_endFor_62 : decode cX4_endFor 62 = .ok (.iinc 3 1, 3) := by decide +kernel
theorem dX4_endFor_65 : decode cX4_endFor 65 = .ok (.goto (-45), 3) := by decide +kernel
theorem dX4_endFor_68 : decode cX4_endFor 68 = .ok (.aload_n 1, 1) := by decide +kernel
theorem dX4_endFor_69 : decode cX4_endFor 69 = .ok (.getfield 36, 3) := by decide +kernel
theorem dX4_endFor_72 : decode cX4_endFor 72 = .ok (.istore_n 3, 1) := by decide +kernel
theorem dX4_endFor_73 : decode cX4_endFor 73 = .ok (.iload_n 3, 1) := by decide +kernel
theorem dX4_endFor_74 : decode cX4_endFor 74 = .ok (.aload_n 1, 1) := by decide +kernel
theorem dX4_endFor_75 : decode cX4_endFor 75 = .ok (.getfield 42, 3) := by decide +kernel
theorem dX4_endFor_78 : decode cX4_endFor 78 = .ok (.if_icmp .gt 32, 3) := by decide +kernel
theorem dX4_endFor_81 : decode cX4_endFor 81 = .ok (.aload_n 0, 1) := by decide +kernel
theorem dX4_endFor_82 : decode cX4_endFor 82 = .ok (.getfield 9, 3) := by decide +kernel
theorem dX4_endFor_85 : decode cX4_endFor 85 = .ok (.iload_n 2, 1) := by decide +kernel
theorem dX4_endFor_86 : decode cX4_endFor 86 = .ok (.sipush 240, 3) := by decide +kernel
theorem dX4_endFor_89 : decode cX4_endFor 89 = .ok (.imul, 1) := by decide +kernel
theorem dX4_endFor_90 : decode cX4_endFor 90 = .ok (.iload_n 3, 1) := by decide +kernel
theorem dX4_endFor_91 : decode cX4_endFor 91 = .ok (.iadd, 1) := by decide +kernel
theorem dX4_endFor_92 : decode cX4_endFor 92 = .ok (.baload, 1) := by decide +kernel
theorem dX4_endFor_93 : decode cX4_endFor 93 = .ok (.ifCond .eq 11, 3) := by decide +kernel
theorem dX4_endFor_96 : decode cX4_endFor 96 = .ok (.aload_n 0, 1) := by decide +kernel
theorem dX4_endFor_97 : decode cX4_endFor 97 = .ok (.aload_n 1, 1) := by decide +kernel
theorem dX4_endFor_98 : decode cX4_endFor 98 = .ok (.iload_n 3, 1) := by decide +kernel
theorem dX4_endFor_99 : decode cX4_endFor 99 = .ok (.invokevirtual 69, 3) := by decide +kernel
theorem dX4_endFor_102 : decode cX4_endFor 102 = .ok (.iload_n 3, 1) := by decide +kernel
theorem dX4_endFor_103 : decode cX4_endFor 103 = .ok (.ireturn, 1) := by decide +kernel
theorem dX4_endFor_104 : decode cX4_endFor 104 = .ok (.iinc 3 1, 3) := by decide +kernel
theorem dX4_endFor_107 : decode cX4_endFor 107 = .ok (.goto (-34), 3) := by decide +kernel
theorem dX4_endFor_110 : decode cX4_endFor 110 = .ok (.iconst (-1), 1) := by decide +kernel
theorem dX4_endFor_111 : decode cX4_endFor 111 = .ok (.ireturn, 1) := by decide +kernel
theorem dX4_clearComings_0 : decode cX4_clearComings 0 = .ok (.aload_n 1, 1) := by decide +kernel
theorem dX4_clearComings_1 : decode cX4_clearComings 1 = .ok (.getfield 36, 3) := by decide +kernel
theorem dX4_clearComings_4 : decode cX4_clearComings 4 = .ok (.istore_n 3, 1) := by decide +kernel
theorem dX4_clearComings_5 : decode cX4_clearComings 5 = .ok (.iload_n 3, 1) := by decide +kernel
theorem dX4_clearComings_6 : decode cX4_clearComings 6 = .ok (.aload_n 1, 1) := by decide +kernel
theorem dX4_clearComings_7 : decode cX4_clearComings 7 = .ok (.getfield 42, 3) := by decide +kernel
theorem dX4_clearComings_10 : decode cX4_clearComings 10 = .ok (.if_icmp .gt 22, 3) := by decide +kernel
theorem dX4_clearComings_13 : decode cX4_clearComings 13 = .ok (.aload_n 0, 1) := by decide +kernel
theorem dX4_clearComings_14 : decode cX4_clearComings 14 = .ok (.getfield 9, 3) := by decide +kernel
theorem dX4_clearComings_17 : decode cX4_clearComings 17 = .ok (.iload_n 2, 1) := by decide +kernel
theorem dX4_clearComings_18 : decode cX4_clearComings 18 = .ok (.sipush 240, 3) := by decide +kernel
theorem dX4_clearComings_21 : decode cX4_clearComings 21 = .ok (.imul, 1) := by decide +kernel
theorem dX4_clearComings_22 : decode cX4_clearComings 22 = .ok (.iload_n 3, 1) := by decide +kernel
theorem dX4_clearComings_23 : decode cX4_clearComings 23 = .ok (.iadd, 1) := by decide +kernel
theorem dX4_clearComings_24 : decode cX4_clearComings 24 = .ok (.iconst 0, 1) := by decide +kernel
theorem dX4_clearComings_25 : decode cX4_clearComings 25 = .ok (.bastore, 1) := by decide +kernel
theorem dX4_clearComings_26 : decode cX4_clearComings 26 = .ok (.iinc 3 1, 3) := by decide +kernel
theorem dX4_clearComings_29 : decode cX4_clearComings 29 = .ok (.goto (-24), 3) := by decide +kernel
theorem dX4_clearComings_32 : decode cX4_clearComings 32 = .ok (.return_, 1) := by decide +kernel
theorem dX4_clearMinutes_0 : decode cX4_clearMinutes 0 = .ok (.aload_n 1, 1) := by decide +kernel
theorem dX4_clearMinutes_1 : decode cX4_clearMinutes 1 = .ok (.getfield 36, 3) := by decide +kernel
theorem dX4_clearMinutes_4 : decode cX4_clearMinutes 4 = .ok (.istore_n 2, 1) := by decide +kernel
theorem dX4_clearMinutes_5 : decode cX4_clearMinutes 5 = .ok (.iload_n 2, 1) := by decide +kernel
theorem dX4_clearMinutes_6 : decode cX4_clearMinutes 6 = .ok (.aload_n 1, 1) := by decide +kernel
theorem dX4_clearMinutes_7 : decode cX4_clearMinutes 7 = .ok (.getfield 42, 3) := by decide +kernel
theorem dX4_clearMinutes_10 : decode cX4_clearMinutes 10 = .ok (.if_icmp .gt 23, 3) := by decide +kernel
theorem dX4_clearMinutes_13 : decode cX4_clearMinutes 13 = .ok (.aload_n 0, 1) := by decide +kernel
theorem dX4_clearMinutes_14 : decode cX4_clearMinutes 14 = .ok (.getfield 15, 3) := by decide +kernel
theorem dX4_clearMinutes_17 : decode cX4_clearMinutes 17 = .ok (.iload_n 2, 1) := by decide +kernel
theorem dX4_clearMinutes_18 : decode cX4_clearMinutes 18 = .ok (.iconst 0, 1) := by decide +kernel
theorem dX4_clearMinutes_19 : decode cX4_clearMinutes 19 = .ok (.bastore, 1) := by decide +kernel
theorem dX4_clearMinutes_20 : decode cX4_clearMinutes 20 = .ok (.aload_n 0, 1) := by decide +kernel
theorem dX4_clearMinutes_21 : decode cX4_clearMinutes 21 = .ok (.getfield 18, 3) := by decide +kernel
theorem dX4_clearMinutes_24 : decode cX4_clearMinutes 24 = .ok (.iload_n 2, 1) := by decide +kernel
theorem dX4_clearMinutes_25 : decode cX4_clearMinutes 25 = .ok (.iconst 0, 1) := by decide +kernel
theorem dX4_clearMinutes_26 : decode cX4_clearMinutes 26 = .ok (.iastore, 1) := by decide +kernel
theorem dX4_clearMinutes_27 : decode cX4_clearMinutes 27 = .ok (.iinc 2 1, 3) := by decide +kernel
theorem dX4_clearMinutes_30 : decode cX4_clearMinutes 30 = .ok (.goto (-25), 3) := by decide +kernel
theorem dX4_clearMinutes_33 : decode cX4_clearMinutes 33 = .ok (.return_, 1) := by decide +kernel
theorem dX4_blockByWorks_0 : decode cX4_blockByWorks 0 = .ok (.aload_n 1, 1) := by decide +kernel
theorem dX4_blockByWorks_1 : decode cX4_blockByWorks 1 = .ok (.iload_n 2, 1) := by decide +kernel
theorem dX4_blockByWorks_2 : decode cX4_blockByWorks 2 = .ok (.invokevirtual 72, 3) := by decide +kernel
theorem dX4_blockByWorks_5 : decode cX4_blockByWorks 5 = .ok (.istore_n 3, 1) := by decide +kernel
theorem dX4_blockByWorks_6 : decode cX4_blockByWorks 6 = .ok (.aload_n 0, 1) := by decide +kernel
theorem dX4_blockByWorks_7 : decode cX4_blockByWorks 7 = .ok (.getfield 28, 3) := by decide +kernel
theorem dX4_blockByWorks_10 : decode cX4_blockByWorks 10 = .ok (.aload_n 1, 1) := by decide +kernel
theorem dX4_blockByWorks_11 : decode cX4_blockByWorks 11 = .ok (.iload_n 2, 1) := by decide +kernel
theorem dX4_blockByWorks_12 : decode cX4_blockByWorks 12 = .ok (.invokevirtual 76, 3) := by decide +kernel
theorem dX4_blockByWorks_15 : decode cX4_blockByWorks 15 = .ok (.istore 4, 2) := by decide +kernel
theorem dX4_blockByWorks_17 : decode cX4_blockByWorks 17 = .ok (.iconst 0, 1) := by decide +kernel
theorem dX4_blockByWorks_18 : decode cX4_blockByWorks 18 = .ok (.istore 5, 2) := by decide +kernel
theorem dX4_blockByWorks_20 : decode cX4_blockByWorks 20 = .ok (.iload 5, 2) := by decide +kernel
theorem dX4_blockByWorks_22 : decode cX4_blockByWorks 22 = .ok (.aload_n 0, 1) := by decide +kernel
theorem dX4_blockByWorks_23 : decode cX4_blockByWorks 23 = .ok (.getfield 28, 3) := by decide +kernel
theorem dX4_blockByWorks_26 : decode cX4_blockByWorks 26 = .ok (.getfield 82, 3) := by decide +kernel
theorem dX4_blockByWorks_29 : decode cX4_blockByWorks 29 = .ok (.if_icmp .ge 54, 3) := by decide +kernel
theorem dX4_blockByWorks_32 : decode cX4_blockByWorks 32 = .ok (.aload_n 0, 1) := by decide +kernel
theorem dX4_blockByWorks_33 : decode cX4_blockByWorks 33 = .ok (.getfield 28, 3) := by decide +kernel
theorem dX4_blockByWorks_36 : decode cX4_blockByWorks 36 = .ok (.getfield 85, 3) := by decide +kernel
theorem dX4_blockByWorks_39 : decode cX4_blockByWorks 39 = .ok (.iload 5, 2) := by decide +kernel
theorem dX4_blockByWorks_41 : decode cX4_blockByWorks 41 = .ok (.iaload, 1) := by decide +kernel
theorem dX4_blockByWorks_42 : decode cX4_blockByWorks 42 = .ok (.iload_n 3, 1) := by decide +kernel
theorem dX4_blockByWorks_43 : decode cX4_blockByWorks 43 = .ok (.if_icmp .ne 34, 3) := by decide +kernel
theorem dX4_blockByWorks_46 : decode cX4_blockByWorks 46 = .ok (.aload_n 0, 1) := by decide +kernel
theorem dX4_blockByWorks_47 : decode cX4_blockByWorks 47 = .ok (.aload_n 0, 1) := by decide +kernel
theorem dX4_blockByWorks_48 : decode cX4_blockByWorks 48 = .ok (.getfield 28, 3) := by decide +kernel
theorem dX4_blockByWorks_51 : decode cX4_blockByWorks 51 = .ok (.getfield 88, 3) := by decide +kernel
theorem dX4_blockByWorks_54 : decode cX4_blockByWorks 54 = .ok (.iload 5, 2) := by decide +kernel
theorem dX4_blockByWorks_56 : decode cX4_blockByWorks 56 = .ok (.iaload, 1) := by decide +kernel
theorem dX4_blockByWorks_57 : decode cX4_blockByWorks 57 = .ok (.iload 4, 2) := by decide +kernel
theorem dX4_blockByWorks_59 : decode cX4_blockByWorks 59 = .ok (.isub, 1) := by decide +kernel
theorem dX4_blockByWorks_60 : decode cX4_blockByWorks 60 = .ok (.iconst 1, 1) := by decide +kernel
theorem dX4_blockByWorks_61 : decode cX4_blockByWorks 61 = .ok (.iadd, 1) := by decide +kernel
theorem dX4_blockByWorks_62 : decode cX4_blockByWorks 62 = .ok (.aload_n 0, 1) := by decide +kernel
theorem dX4_blockByWorks_63 : decode cX4_blockByWorks 63 = .ok (.getfield 28, 3) := by decide +kernel
theorem dX4_blockByWorks_66 : decode cX4_blockByWorks 66 = .ok (.getfield 91, 3) := by decide +kernel
theorem dX4_blockByWorks_69 : decode cX4_blockByWorks 69 = .ok (.iload 5, 2) := by decide +kernel
theorem dX4_blockByWorks_71 : decode cX4_blockByWorks 71 = .ok (.iaload, 1) := by decide +kernel
theorem dX4_blockByWorks_72 : decode cX4_blockByWorks 72 = .ok (.iconst 1, 1) := by decide +kernel
theorem dX4_blockByWorks_73 : decode cX4_blockByWorks 73 = .ok (.isub, 1) := by decide +kernel
theorem dX4_blockByWorks_74 : decode cX4_blockByWorks 74 = .ok (.invokevirtual 94, 3) := by decide +kernel
theorem dX4_blockByWorks_77 : decode cX4_blockByWorks 77 = .ok (.iinc 5 1, 3) := by decide +kernel
theorem dX4_blockByWorks_80 : decode cX4_blockByWorks 80 = .ok (.goto (-60), 3) := by decide +kernel
theorem dX4_blockByWorks_83 : decode cX4_blockByWorks 83 = .ok (.return_, 1) := by decide +kernel
theorem dX4_blockByOthers_0 : decode cX4_blockByOthers 0 = .ok (.aload_n 1, 1) := by decide +kernel
theorem dX4_blockByOthers_1 : decode cX4_blockByOthers 1 = .ok (.iload_n 2, 1) := by decide +kernel
theorem dX4_blockByOthers_2 : decode cX4_blockByOthers 2 = .ok (.invokevirtual 72, 3) := by decide +kernel
theorem dX4_blockByOthers_5 : decode cX4_blockByOthers 5 = .ok (.istore_n 3, 1) := by decide +kernel
theorem dX4_blockByOthers_6 : decode cX4_blockByOthers 6 = .ok (.aload_n 0, 1) := by decide +kernel
theorem dX4_blockByOthers_7 : decode cX4_blockByOthers 7 = .ok (.getfield 28, 3) := by decide +kernel
theorem dX4_blockByOthers_10 : decode cX4_blockByOthers 10 = .ok (.aload_n 1, 1) := by decide +kernel
theorem dX4_blockByOthers_11 : decode cX4_blockByOthers 11 = .ok (.iload_n 2, 1) := by decide +kernel
theorem dX4_blockByOthers_12 : decode cX4_blockByOthers 12 = .ok (.invokevirtual 76, 3) := by decide +kernel
theorem dX4_blockByOthers_15 : decode cX4_blockByOthers 15 = .ok (.istore 4, 2) := by decide +kernel
theorem dX4_blockByOthers_17 : decode cX4_blockByOthers 17 = .ok (.aload_n 0, 1) := by decide +kernel
theorem dX4_blockByOthers_18 : decode cX4_blockByOthers 18 = .ok (.getfield 28, 3) := by decide +kernel
theorem dX4_blockByOthers_21 : decode cX4_blockByOthers 21 = .ok (.invokevirtual 98, 3) := by decide +kernel
theorem dX4_blockByOthers_24 : decode cX4_blockByOthers 24 = .ok (.istore 5, 2) := by decide +kernel
theorem dX4_blockByOthers_26 : decode cX4_blockByOthers 26 = .ok (.iconst 0, 1) := by decide +kernel
theorem dX4_blockByOthers_27 : decode cX4_blockByOthers 27 = .ok (.istore 6, 2) := by decide +kernel
theorem dX4_blockByOthers_29 : decode cX4_blockByOthers 29 = .ok (.iload 6, 2) := by decide +kernel
theorem dX4_blockByOthers_31 : decode cX4_blockByOthers 31 = .ok (.aload_n 0, 1) := by decide +kernel
theorem dX4_blockByOthers_32 : decode cX4_blockByOthers 32 = .ok (.getfield 32, 3) := by decide +kernel
theorem dX4_blockByOthers_35 : decode cX4_blockByOthers 35 = .ok (.getfield 101, 3) := by decide +kernel
theorem dX4_blockByOthers_38 : decode cX4_blockByOthers 38 = .ok (.invokevirtual 107, 3) := by decide +kernel
theorem dX4_blockByOthers_41 : decode cX4_blockByOthers 41 = .ok (.if_icmp .ge 107, 3) := by decide +kernel
theorem dX4_blockByOthers_44 : decode cX4_blockByOthers 44 = .ok (.aload_n 0, 1) := by decide +kernel
theorem dX4_blockByOthers_45 : decode cX4_blockByOthers 45 = .ok (.getfield 32, 3) := by decide +kernel
theorem dX4_blockByOthers_48 : decode cX4_blockByOthers 48 = .ok (.getfield 101, 3) := by decide +kernel
theorem dX4_blockByOthers_51 : decode cX4_blockByOthers 51 = .ok (.iload 6, 2) := by decide +kernel
theorem dX4_blockByOthers_53 : decode cX4_blockByOthers 53 = .ok (.invokevirtual 112, 3) := by decide +kernel
theorem dX4_blockByOthers_56 : decode cX4_blockByOthers 56 = .ok (.checkcast 37, 3) := by decide +kernel
theorem dX4_blockByOthers_59 : decode cX4_blockByOthers 59 = .ok (.astore 7, 2) := by decide +kernel
theorem dX4_blockByOthers_61 : decode cX4_blockByOthers 61 = .ok (.aload 7, 2) := by decide +kernel
theorem dX4_blockByOthers_63 : decode cX4_blockByOthers 63 = .ok (.iload_n 3, 1) := by decide +kernel
theorem dX4_blockByOthers_64 : decode cX4_blockByOthers 64 = .ok (.invokevirtual 116, 3) := by decide +kernel
theorem dX4_blockByOthers_67 : decode cX4_blockByOthers 67 = .ok (.istore 8, 2) := by decide +kernel
theorem dX4_blockByOthers_69 : decode cX4_blockByOthers 69 = .ok (.aload 7, 2) := by decide +kernel
theorem dX4_blockByOthers_71 : decode cX4_blockByOthers 71 = .ok (.aload_n 1, 1) := by decide +kernel
theorem dX4_blockByOthers_72 : decode cX4_blockByOthers 72 = .ok (.if_acmp .eq 70, 3) := by decide +kernel
theorem dX4_blockByOthers_75 : decode cX4_blockByOthers 75 = .ok (.aload 7, 2) := by decide +kernel
theorem dX4_blockByOthers_77 : decode cX4_blockByOthers 77 = .ok (.getfield 119, 3) := by decide +kernel
theorem dX4_blockByOthers_80 : decode cX4_blockByOthers 80 = .ok (.ifCond .eq 62, 3) := by decide +kernel
theorem dX4_blockByOthers_83 : decode cX4_blockByOthers 83 = .ok (.iload 8, 2) := by decide +kernel
theorem dX4_blockByOthers_85 : decode cX4_blockByOthers 85 = .ok (.iconst (-1), 1) := by decide +kernel
theorem dX4_blockByOthers_86 : decode cX4_blockByOthers 86 = .ok (.if_icmp .eq 56, 3) := by decide +kernel
theorem dX4_blockByOthers_89 : decode cX4_blockByOthers 89 = .ok (.aload_n 0, 1) := by decide +kernel
theorem dX4_blockByOthers_90 : decode cX4_blockByOthers 90 = .ok (.getfield 28, 3) := by decide +kernel
theorem dX4_blockByOthers_93 : decode cX4_blockByOthers 93 = .ok (.iload_n 3, 1) := by decide +kernel
theorem dX4_blockByOthers_94 : decode cX4_blockByOthers 94 = .ok (.aload_n 1, 1) := by decide +kernel
theorem dX4_blockByOthers_95 : decode cX4_blockByOthers 95 = .ok (.aload 7, 2) := by decide +kernel
theorem dX4_blockByOthers_97 : decode cX4_blockByOthers 97 = .ok (.invokevirtual 123, 3) := by decide +kernel
theorem dX4_blockByOthers_100 : decode cX4_blockByOthers 100 = .ok (.ifCond .eq 42, 3) := by decide +kernel
theorem dX4_blockByOthers_103 : decode cX4_blockByOthers 103 = .ok (.aload 7, 2) := by decide +kernel
theorem dX4_blockByOthers_105 : decode cX4_blockByOthers 105 = .ok (.getfield 127, 3) := by decide +kernel
theorem dX4_blockByOthers_108 : decode cX4_blockByOthers 108 = .ok (.iload 8, 2) := by decide +kernel
theorem dX4_blockByOthers_110 : decode cX4_blockByOthers 110 = .ok (.iaload, 1) := by decide +kernel
theorem dX4_blockByOthers_111 : decode cX4_blockByOthers 111 = .ok (.iload 4, 2) := by decide +kernel
theorem dX4_blockByOthers_113 : decode cX4_blockByOthers 113 = .ok (.isub, 1) := by decide +kernel
theorem dX4_blockByOthers_114 : decode cX4_blockByOthers 114 = .ok (.iload 5, 2) := by decide +kernel
theorem dX4_blockByOthers_116 : decode cX4_blockByOthers 116 = .ok (.isub, 1) := by decide +kernel
theorem dX4_blockByOthers_117 : decode cX4_blockByOthers 117 = .ok (.istore 9, 2) := by decide +kernel
theorem dX4_blockByOthers_119 : decode cX4_blockByOthers 119 = .ok (.aload_n 0, 1) := by decide +kernel
theorem dX4_blockByOthers_120 : decode cX4_blockByOthers 120 = .ok (.iload 9, 2) := by decide +kernel
theorem dX4_blockByOthers_122 : decode cX4_blockByOthers 122 = .ok (.iconst 1, 1) := by decide +kernel
theorem dX4_blockByOthers_123 : decode cX4_blockByOthers 123 = .ok (.iadd, 1) := by decide +kernel
theorem dX4_blockByOthers_124 : decode cX4_blockByOthers 124 = .ok (.aload 7, 2) := by decide +kernel
theorem dX4_blockByOthers_126 : decode cX4_blockByOthers 126 = .ok (.getfield 128, 3) := by decide +kernel
theorem dX4_blockByOthers_129 : decode cX4_blockByOthers 129 = .ok (.iload 8, 2) := by decide +kernel
theorem dX4_blockByOthers_131 : decode cX4_blockByOthers 131 = .ok (.iconst 1, 1) := by decide +kernel
theorem dX4_blockByOthers_132 : decode cX4_blockByOthers 132 = .ok (.iadd, 1) := by decide +kernel
theorem dX4_blockByOthers_133 : decode cX4_blockByOthers 133 = .ok (.iaload, 1) := by decide +kernel
theorem dX4_blockByOthers_134 : decode cX4_blockByOthers 134 = .ok (.iconst 1, 1) := by decide +kernel
theorem dX4_blockByOthers_135 : decode cX4_blockByOthers 135 = .ok (.isub, 1) := by decide +kernel
theorem dX4_blockByOthers_136 : decode cX4_blockByOthers 136 = .ok (.iload 5, 2) := by decide +kernel
theorem dX4_blockByOthers_138 : decode cX4_blockByOthers 138 = .ok (.iadd, 1) := by decide +kernel
theorem dX4_blockByOthers_139 : decode cX4_blockByOthers 139 = .ok (.invokevirtual 94, 3) := by decide +kernel
theorem dX4_blockByOthers_142 : decode cX4_blockByOthers 142 = .ok (.iinc 6 1, 3) := by decide +kernel
theorem dX4_blockByOthers_145 : decode cX4_blockByOthers 145 = .ok (.goto (-116), 3) := by decide +kernel
theorem dX4_blockByOthers_148 : decode cX4_blockByOthers 148 = .ok (.return_, 1) := by decide +kernel
theorem dX4_block_0 : decode cX4_block 0 = .ok (.iload_n 2, 1) := by decide +kernel
theorem dX4_block_1 : decode cX4_block 1 = .ok (.sipush 239, 3) := by decide +kernel
theorem dX4_block_4 : decode cX4_block 4 = .ok (.invokestatic 129, 3) := by decide +kernel
theorem dX4_block_7 : decode cX4_block 7 = .ok (.istore_n 3, 1) := by decide +kernel
theorem dX4_block_8 : decode cX4_block 8 = .ok (.iload_n 1, 1) := by decide +kernel
theorem dX4_block_9 : decode cX4_block 9 = .ok (.iconst 0, 1) := by decide +kernel
theorem dX4_block_10 : decode cX4_block 10 = .ok (.invokestatic 135, 3) := by decide +kernel
theorem dX4_block_13 : decode cX4_block 13 = .ok (.istore 4, 2) := by decide +kernel
theorem dX4_block_15 : decode cX4_block 15 = .ok (.iload 4, 2) := by decide +kernel
theorem dX4_block_17 : decode cX4_block 17 = .ok (.iload_n 3, 1) := by decide +kernel
theorem dX4_block_18 : decode cX4_block 18 = .ok (.if_icmp .gt 17, 3) := by decide +kernel
theorem dX4_block_21 : decode cX4_block 21 = .ok (.aload_n 0, 1) := by decide +kernel
theorem dX4_block_22 : decode cX4_block 22 = .ok (.getfield 15, 3) := by decide +kernel
theorem dX4_block_25 : decode cX4_block 25 = .ok (.iload 4, 2) := by decide +kernel
theorem dX4_block_27 : decode cX4_block 27 = .ok (.iconst 1, 1) := by decide +kernel
theorem dX4_block_28 : decode cX4_block 28 = .ok (.bastore, 1) := by decide +kernel
theorem dX4_block_29 : decode cX4_block 29 = .ok (.iinc 4 1, 3) := by decide +kernel
theorem dX4_block_32 : decode cX4_block 32 = .ok (.goto (-17), 3) := by decide +kernel
theorem dX4_block_35 : decode cX4_block 35 = .ok (.return_, 1) := by decide +kernel
theorem dX4_countStanding_0 : decode cX4_countStanding 0 = .ok (.aload_n 1, 1) := by decide +kernel
theorem dX4_countStanding_1 : decode cX4_countStanding 1 = .ok (.iload_n 2, 1) := by decide +kernel
theorem dX4_countStanding_2 : decode cX4_countStanding 2 = .ok (.invokevirtual 138, 3) := by decide +kernel
theorem dX4_countStanding_5 : decode cX4_countStanding 5 = .ok (.istore_n 3, 1) := by decide +kernel
theorem dX4_countStanding_6 : decode cX4_countStanding 6 = .ok (.iconst 0, 1) := by decide +kernel
theorem dX4_countStanding_7 : decode cX4_countStanding 7 = .ok (.istore 4, 2) := by decide +kernel
theorem dX4_countStanding_9 : decode cX4_countStanding 9 = .ok (.iload 4, 2) := by decide +kernel
theorem dX4_countStanding_11 : decode cX4_countStanding 11 = .ok (.aload_n 0, 1) := by decide +kernel
theorem dX4_countStanding_12 : decode cX4_countStanding 12 = .ok (.getfield 32, 3) := by decide +kernel
theorem dX4_countStanding_15 : decode cX4_countStanding 15 = .ok (.getfield 101, 3) := by decide +kernel
theorem dX4_countStanding_18 : decode cX4_countStanding 18 = .ok (.invokevirtual 107, 3) := by decide +kernel
theorem dX4_countStanding_21 : decode cX4_countStanding 21 = .ok (.if_icmp .ge 103, 3) := by decide +kernel
theorem dX4_countStanding_24 : decode cX4_countStanding 24 = .ok (.aload_n 0, 1) := by decide +kernel
theorem dX4_countStanding_25 : decode cX4_countStanding 25 = .ok (.getfield 32, 3) := by decide +kernel
theorem dX4_countStanding_28 : decode cX4_countStanding 28 = .ok (.getfield 101, 3) := by decide +kernel
theorem dX4_countStanding_31 : decode cX4_countStanding 31 = .ok (.iload 4, 2) := by decide +kernel
theorem dX4_countStanding_33 : decode cX4_countStanding 33 = .ok (.invokevirtual 112, 3) := by decide +kernel
theorem dX4_countStanding_36 : decode cX4_countStanding 36 = .ok (.checkcast 37, 3) := by decide +kernel
theorem dX4_countStanding_39 : decode cX4_countStanding 39 = .ok (.astore 5, 2) := by decide +kernel
theorem dX4_countStanding_41 : decode cX4_countStanding 41 = .ok (.aload 5, 2) := by decide +kernel
theorem dX4_countStanding_43 : decode cX4_countStanding 43 = .ok (.iload_n 3, 1) := by decide +kernel
theorem dX4_countStanding_44 : decode cX4_countStanding 44 = .ok (.invokevirtual 141, 3) := by decide +kernel
theorem dX4_countStanding_47 : decode cX4_countStanding 47 = .ok (.istore 6, 2) := by decide +kernel
theorem dX4_countStanding_49 : decode cX4_countStanding 49 = .ok (.aload 5, 2) := by decide +kernel
theorem dX4_countStanding_51 : decode cX4_countStanding 51 = .ok (.aload_n 1, 1) := by decide +kernel
theorem dX4_countStanding_52 : decode cX4_countStanding 52 = .ok (.if_acmp .eq 66, 3) := by decide +kernel
theorem dX4_countStanding_55 : decode cX4_countStanding 55 = .ok (.aload 5, 2) := by decide +kernel
theorem dX4_countStanding_57 : decode cX4_countStanding 57 = .ok (.getfield 119, 3) := by decide +kernel
theorem dX4_countStanding_60 : decode cX4_countStanding 60 = .ok (.ifCond .eq 58, 3) := by decide +kernel
theorem dX4_countStanding_63 : decode cX4_countStanding 63 = .ok (.iload 6, 2) := by decide +kernel
theorem dX4_countStanding_65 : decode cX4_countStanding 65 = .ok (.ifCond .le 53, 3) := by decide +kernel
theorem dX4_countStanding_68 : decode cX4_countStanding 68 = .ok (.iload 6, 2) := by decide +kernel
theorem dX4_countStanding_70 : decode cX4_countStanding 70 = .ok (.aload 5, 2) := by decide +kernel
theorem dX4_countStanding_72 : decode cX4_countStanding 72 = .ok (.invokevirtual 45, 3) := by decide +kernel
theorem dX4_countStanding_75 : decode cX4_countStanding 75 = .ok (.if_icmp .ge 43, 3) := by decide +kernel
theorem dX4_countStanding_78 : decode cX4_countStanding 78 = .ok (.aload 5, 2) := by decide +kernel
theorem dX4_countStanding_80 : decode cX4_countStanding 80 = .ok (.getfield 128, 3) := by decide +kernel
theorem dX4_countStanding_83 : decode cX4_countStanding 83 = .ok (.iload 6, 2) := by decide +kernel
theorem dX4_countStanding_85 : decode cX4_countStanding 85 = .ok (.iaload, 1) := by decide +kernel
end
section
theorem dX4_countStanding_86 : decode cX4_countStanding 86 = .ok (.istore 7, 2) := by decide +kernel
theorem dX4_countStanding_88 : decode cX4_countStanding 88 = .ok (.iload 7, 2) := by decide +kernel
theorem dX4_countStanding_90 : decode cX4_countStanding 90 = .ok (.aload 5, 2) := by decide +kernel
theorem dX4_countStanding_92 : decode cX4_countStanding 92 = .ok (.getfield 127, 3) := by decide +kernel
theorem dX4_countStanding_95 : decode cX4_countStanding 95 = .ok (.iload 6, 2) := by decide +kernel
theorem dX4_countStanding_97 : decode cX4_countStanding 97 = .ok (.iaload, 1) := by decide +kernel
theorem dX4_countStanding_98 : decode cX4_countStanding 98 = .ok (.if_icmp .ge 20, 3) := by decide +kernel
theorem dX4_countStanding_101 : decode cX4_countStanding 101 = .ok (.aload_n 0, 1) := by decide +kernel
theorem dX4_countStanding_102 : decode cX4_countStanding 102 = .ok (.getfield 18, 3) := by decide +kernel
theorem dX4_countStanding_105 : decode cX4_countStanding 105 = .ok (.iload 7, 2) := by decide +kernel
theorem dX4_countStanding_107 : decode cX4_countStanding 107 = .ok (.dup2, 1) := by decide +kernel
theorem dX4_countStanding_108 : decode cX4_countStanding 108 = .ok (.iaload, 1) := by decide +kernel
theorem dX4_countStanding_109 : decode cX4_countStanding 109 = .ok (.iconst 1, 1) := by decide +kernel
theorem dX4_countStanding_110 : decode cX4_countStanding 110 = .ok (.iadd, 1) := by decide +kernel
theorem dX4_countStanding_111 : decode cX4_countStanding 111 = .ok (.iastore, 1) := by decide +kernel
theorem dX4_countStanding_112 : decode cX4_countStanding 112 = .ok (.iinc 7 1, 3) := by decide +kernel
theorem dX4_countStanding_115 : decode cX4_countStanding 115 = .ok (.goto (-27), 3) := by decide +kernel
theorem dX4_countStanding_118 : decode cX4_countStanding 118 = .ok (.iinc 4 1, 3) := by decide +kernel
theorem dX4_countStanding_121 : decode cX4_countStanding 121 = .ok (.goto (-112), 3) := by decide +kernel
theorem dX4_countStanding_124 : decode cX4_countStanding 124 = .ok (.return_, 1) := by decide +kernel
theorem dX4_spreadComings_0 : decode cX4_spreadComings 0 = .ok (.aload_n 0, 1) := by decide +kernel
theorem dX4_spreadComings_1 : decode cX4_spreadComings 1 = .ok (.getfield 28, 3) := by decide +kernel
theorem dX4_spreadComings_4 : decode cX4_spreadComings 4 = .ok (.aload_n 1, 1) := by decide +kernel
theorem dX4_spreadComings_5 : decode cX4_spreadComings 5 = .ok (.iload_n 2, 1) := by decide +kernel
theorem dX4_spreadComings_6 : decode cX4_spreadComings 6 = .ok (.invokevirtual 76, 3) := by decide +kernel
theorem dX4_spreadComings_9 : decode cX4_spreadComings 9 = .ok (.istore_n 3, 1) := by decide +kernel
theorem dX4_spreadComings_10 : decode cX4_spreadComings 10 = .ok (.aload_n 0, 1) := by decide +kernel
theorem dX4_spreadComings_11 : decode cX4_spreadComings 11 = .ok (.getfield 28, 3) := by decide +kernel
theorem dX4_spreadComings_14 : decode cX4_spreadComings 14 = .ok (.getfield 144, 3) := by decide +kernel
theorem dX4_spreadComings_17 : decode cX4_spreadComings 17 = .ok (.aload_n 1, 1) := by decide +kernel
theorem dX4_spreadComings_18 : decode cX4_spreadComings 18 = .ok (.iload_n 2, 1) := by decide +kernel
theorem dX4_spreadComings_19 : decode cX4_spreadComings 19 = .ok (.invokevirtual 138, 3) := by decide +kernel
theorem dX4_spreadComings_22 : decode cX4_spreadComings 22 = .ok (.iaload, 1) := by decide +kernel
theorem dX4_spreadComings_23 : decode cX4_spreadComings 23 = .ok (.istore 4, 2) := by decide +kernel
theorem dX4_spreadComings_25 : decode cX4_spreadComings 25 = .ok (.iload_n 2, 1) := by decide +kernel
theorem dX4_spreadComings_26 : decode cX4_spreadComings 26 = .ok (.sipush 240, 3) := by decide +kernel
theorem dX4_spreadComings_29 : decode cX4_spreadComings 29 = .ok (.imul, 1) := by decide +kernel
theorem dX4_spreadComings_30 : decode cX4_spreadComings 30 = .ok (.istore 5, 2) := by decide +kernel
theorem dX4_spreadComings_32 : decode cX4_spreadComings 32 = .ok (.iload 5, 2) := by decide +kernel
theorem dX4_spreadComings_34 : decode cX4_spreadComings 34 = .ok (.sipush 240, 3) := by decide +kernel
theorem dX4_spreadComings_37 : decode cX4_spreadComings 37 = .ok (.iadd, 1) := by decide +kernel
theorem dX4_spreadComings_38 : decode cX4_spreadComings 38 = .ok (.iload_n 3, 1) := by decide +kernel
theorem dX4_spreadComings_39 : decode cX4_spreadComings 39 = .ok (.iadd, 1) := by decide +kernel
theorem dX4_spreadComings_40 : decode cX4_spreadComings 40 = .ok (.istore 6, 2) := by decide +kernel
theorem dX4_spreadComings_42 : decode cX4_spreadComings 42 = .ok (.iload_n 2, 1) := by decide +kernel
theorem dX4_spreadComings_43 : decode cX4_spreadComings 43 = .ok (.ifCond .ne 7, 3) := by decide +kernel
theorem dX4_spreadComings_46 : decode cX4_spreadComings 46 = .ok (.iconst 1, 1) := by decide +kernel
theorem dX4_spreadComings_47 : decode cX4_spreadComings 47 = .ok (.goto 4, 3) := by decide +kernel
theorem dX4_spreadComings_50 : decode cX4_spreadComings 50 = .ok (.iconst 0, 1) := by decide +kernel
theorem dX4_spreadComings_51 : decode cX4_spreadComings 51 = .ok (.istore 7, 2) := by decide +kernel
theorem dX4_spreadComings_53 : decode cX4_spreadComings 53 = .ok (.aload_n 1, 1) := by decide +kernel
theorem dX4_spreadComings_54 : decode cX4_spreadComings 54 = .ok (.getfield 36, 3) := by decide +kernel
theorem dX4_spreadComings_57 : decode cX4_spreadComings 57 = .ok (.istore 8, 2) := by decide +kernel
theorem dX4_spreadComings_59 : decode cX4_spreadComings 59 = .ok (.iload 8, 2) := by decide +kernel
theorem dX4_spreadComings_61 : decode cX4_spreadComings 61 = .ok (.iload_n 3, 1) := by decide +kernel
theorem dX4_spreadComings_62 : decode cX4_spreadComings 62 = .ok (.iadd, 1) := by decide +kernel
theorem dX4_spreadComings_63 : decode cX4_spreadComings 63 = .ok (.aload_n 1, 1) := by decide +kernel
theorem dX4_spreadComings_64 : decode cX4_spreadComings 64 = .ok (.getfield 42, 3) := by decide +kernel
theorem dX4_spreadComings_67 : decode cX4_spreadComings 67 = .ok (.if_icmp .gt 83, 3) := by decide +kernel
theorem dX4_spreadComings_70 : decode cX4_spreadComings 70 = .ok (.iload 7, 2) := by decide +kernel
theorem dX4_spreadComings_72 : decode cX4_spreadComings 72 = .ok (.ifCond .ne 20, 3) := by decide +kernel
theorem dX4_spreadComings_75 : decode cX4_spreadComings 75 = .ok (.iload_n 2, 1) := by decide +kernel
theorem dX4_spreadComings_76 : decode cX4_spreadComings 76 = .ok (.ifCond .le 20, 3) := by decide +kernel
theorem dX4_spreadComings_79 : decode cX4_spreadComings 79 = .ok (.aload_n 0, 1) := by decide +kernel
theorem dX4_spreadComings_80 : decode cX4_spreadComings 80 = .ok (.getfield 9, 3) := by decide +kernel
theorem dX4_spreadComings_83 : decode cX4_spreadComings 83 = .ok (.iload 5, 2) := by decide +kernel
theorem dX4_spreadComings_85 : decode cX4_spreadComings 85 = .ok (.iload 8, 2) := by decide +kernel
theorem dX4_spreadComings_87 : decode cX4_spreadComings 87 = .ok (.iadd, 1) := by decide +kernel
theorem dX4_spreadComings_88 : decode cX4_spreadComings 88 = .ok (.baload, 1) := by decide +kernel
theorem dX4_spreadComings_89 : decode cX4_spreadComings 89 = .ok (.ifCond .eq 7, 3) := by decide +kernel
theorem dX4_spreadComings_92 : decode cX4_spreadComings 92 = .ok (.iconst 1, 1) := by decide +kernel
theorem dX4_spreadComings_93 : decode cX4_spreadComings 93 = .ok (.goto 4, 3) := by decide +kernel
theorem dX4_spreadComings_96 : decode cX4_spreadComings 96 = .ok (.iconst 0, 1) := by decide +kernel
theorem dX4_spreadComings_97 : decode cX4_spreadComings 97 = .ok (.istore 7, 2) := by decide +kernel
theorem dX4_spreadComings_99 : decode cX4_spreadComings 99 = .ok (.iload 7, 2) := by decide +kernel
theorem dX4_spreadComings_101 : decode cX4_spreadComings 101 = .ok (.ifCond .eq 24, 3) := by decide +kernel
theorem dX4_spreadComings_104 : decode cX4_spreadComings 104 = .ok (.aload_n 0, 1) := by decide +kernel
theorem dX4_spreadComings_105 : decode cX4_spreadComings 105 = .ok (.getfield 15, 3) := by decide +kernel
theorem dX4_spreadComings_108 : decode cX4_spreadComings 108 = .ok (.iload 8, 2) := by decide +kernel
theorem dX4_spreadComings_110 : decode cX4_spreadComings 110 = .ok (.baload, 1) := by decide +kernel
theorem dX4_spreadComings_111 : decode cX4_spreadComings 111 = .ok (.ifCond .ne 14, 3) := by decide +kernel
theorem dX4_spreadComings_114 : decode cX4_spreadComings 114 = .ok (.aload_n 0, 1) := by decide +kernel
theorem dX4_spreadComings_115 : decode cX4_spreadComings 115 = .ok (.getfield 9, 3) := by decide +kernel
theorem dX4_spreadComings_118 : decode cX4_spreadComings 118 = .ok (.iload 6, 2) := by decide +kernel
theorem dX4_spreadComings_120 : decode cX4_spreadComings 120 = .ok (.iload 8, 2) := by decide +kernel
theorem dX4_spreadComings_122 : decode cX4_spreadComings 122 = .ok (.iadd, 1) := by decide +kernel
theorem dX4_spreadComings_123 : decode cX4_spreadComings 123 = .ok (.iconst 1, 1) := by decide +kernel
theorem dX4_spreadComings_124 : decode cX4_spreadComings 124 = .ok (.bastore, 1) := by decide +kernel
theorem dX4_spreadComings_125 : decode cX4_spreadComings 125 = .ok (.iload_n 2, 1) := by decide +kernel
theorem dX4_spreadComings_126 : decode cX4_spreadComings 126 = .ok (.ifCond .le 18, 3) := by decide +kernel
theorem dX4_spreadComings_129 : decode cX4_spreadComings 129 = .ok (.aload_n 0, 1) := by decide +kernel
theorem dX4_spreadComings_130 : decode cX4_spreadComings 130 = .ok (.getfield 18, 3) := by decide +kernel
theorem dX4_spreadComings_133 : decode cX4_spreadComings 133 = .ok (.iload 8, 2) := by decide +kernel
theorem dX4_spreadComings_135 : decode cX4_spreadComings 135 = .ok (.iaload, 1) := by decide +kernel
theorem dX4_spreadComings_136 : decode cX4_spreadComings 136 = .ok (.iload 4, 2) := by decide +kernel
theorem dX4_spreadComings_138 : decode cX4_spreadComings 138 = .ok (.if_icmp .lt 6, 3) := by decide +kernel
theorem dX4_spreadComings_141 : decode cX4_spreadComings 141 = .ok (.iconst 0, 1) := by decide +kernel
theorem dX4_spreadComings_142 : decode cX4_spreadComings 142 = .ok (.istore 7, 2) := by decide +kernel
theorem dX4_spreadComings_144 : decode cX4_spreadComings 144 = .ok (.iinc 8 1, 3) := by decide +kernel
theorem dX4_spreadComings_147 : decode cX4_spreadComings 147 = .ok (.goto (-88), 3) := by decide +kernel
theorem dX4_spreadComings_150 : decode cX4_spreadComings 150 = .ok (.return_, 1) := by decide +kernel
theorem dX4_traceBack_0 : decode cX4_traceBack 0 = .ok (.iload_n 2, 1) := by decide +kernel
theorem dX4_traceBack_1 : decode cX4_traceBack 1 = .ok (.istore_n 3, 1) := by decide +kernel
theorem dX4_traceBack_2 : decode cX4_traceBack 2 = .ok (.aload_n 1, 1) := by decide +kernel
theorem dX4_traceBack_3 : decode cX4_traceBack 3 = .ok (.invokevirtual 45, 3) := by decide +kernel
theorem dX4_traceBack_6 : decode cX4_traceBack 6 = .ok (.iconst 1, 1) := by decide +kernel
theorem dX4_traceBack_7 : decode cX4_traceBack 7 = .ok (.isub, 1) := by decide +kernel
theorem dX4_traceBack_8 : decode cX4_traceBack 8 = .ok (.istore 4, 2) := by decide +kernel
theorem dX4_traceBack_10 : decode cX4_traceBack 10 = .ok (.iload 4, 2) := by decide +kernel
theorem dX4_traceBack_12 : decode cX4_traceBack 12 = .ok (.ifCond .lt 80, 3) := by decide +kernel
theorem dX4_traceBack_15 : decode cX4_traceBack 15 = .ok (.iload_n 3, 1) := by decide +kernel
theorem dX4_traceBack_16 : decode cX4_traceBack 16 = .ok (.aload_n 0, 1) := by decide +kernel
theorem dX4_traceBack_17 : decode cX4_traceBack 17 = .ok (.getfield 28, 3) := by decide +kernel
theorem dX4_traceBack_20 : decode cX4_traceBack 20 = .ok (.aload_n 1, 1) := by decide +kernel
theorem dX4_traceBack_21 : decode cX4_traceBack 21 = .ok (.iload 4, 2) := by decide +kernel
theorem dX4_traceBack_23 : decode cX4_traceBack 23 = .ok (.invokevirtual 76, 3) := by decide +kernel
theorem dX4_traceBack_26 : decode cX4_traceBack 26 = .ok (.isub, 1) := by decide +kernel
theorem dX4_traceBack_27 : decode cX4_traceBack 27 = .ok (.istore 5, 2) := by decide +kernel
theorem dX4_traceBack_29 : decode cX4_traceBack 29 = .ok (.aload_n 0, 1) := by decide +kernel
theorem dX4_traceBack_30 : decode cX4_traceBack 30 = .ok (.getfield 25, 3) := by decide +kernel
theorem dX4_traceBack_33 : decode cX4_traceBack 33 = .ok (.iload 4, 2) := by decide +kernel
theorem dX4_traceBack_35 : decode cX4_traceBack 35 = .ok (.iconst 1, 1) := by decide +kernel
theorem dX4_traceBack_36 : decode cX4_traceBack 36 = .ok (.iadd, 1) := by decide +kernel
theorem dX4_traceBack_37 : decode cX4_traceBack 37 = .ok (.iload_n 3, 1) := by decide +kernel
theorem dX4_traceBack_38 : decode cX4_traceBack 38 = .ok (.iastore, 1) := by decide +kernel
theorem dX4_traceBack_39 : decode cX4_traceBack 39 = .ok (.aload_n 0, 1) := by decide +kernel
theorem dX4_traceBack_40 : decode cX4_traceBack 40 = .ok (.getfield 22, 3) := by decide +kernel
theorem dX4_traceBack_43 : decode cX4_traceBack 43 = .ok (.iload 4, 2) := by decide +kernel
theorem dX4_traceBack_45 : decode cX4_traceBack 45 = .ok (.iload 5, 2) := by decide +kernel
theorem dX4_traceBack_47 : decode cX4_traceBack 47 = .ok (.iastore, 1) := by decide +kernel
theorem dX4_traceBack_48 : decode cX4_traceBack 48 = .ok (.iload 5, 2) := by decide +kernel
theorem dX4_traceBack_50 : decode cX4_traceBack 50 = .ok (.istore_n 3, 1) := by decide +kernel
theorem dX4_traceBack_51 : decode cX4_traceBack 51 = .ok (.iload 4, 2) := by decide +kernel
theorem dX4_traceBack_53 : decode cX4_traceBack 53 = .ok (.ifCond .le 33, 3) := by decide +kernel
theorem dX4_traceBack_56 : decode cX4_traceBack 56 = .ok (.iload_n 3, 1) := by decide +kernel
theorem dX4_traceBack_57 : decode cX4_traceBack 57 = .ok (.aload_n 1, 1) := by decide +kernel
theorem dX4_traceBack_58 : decode cX4_traceBack 58 = .ok (.getfield 36, 3) := by decide +kernel
theorem dX4_traceBack_61 : decode cX4_traceBack 61 = .ok (.if_icmp .le 25, 3) := by decide +kernel
theorem dX4_traceBack_64 : decode cX4_traceBack 64 = .ok (.aload_n 0, 1) := by decide +kernel
theorem dX4_traceBack_65 : decode cX4_traceBack 65 = .ok (.getfield 9, 3) := by decide +kernel
theorem dX4_traceBack_68 : decode cX4_traceBack 68 = .ok (.iload 4, 2) := by decide +kernel
theorem dX4_traceBack_70 : decode cX4_traceBack 70 = .ok (.sipush 240, 3) := by decide +kernel
theorem dX4_traceBack_73 : decode cX4_traceBack 73 = .ok (.imul, 1) := by decide +kernel
theorem dX4_traceBack_74 : decode cX4_traceBack 74 = .ok (.iload_n 3, 1) := by decide +kernel
theorem dX4_traceBack_75 : decode cX4_traceBack 75 = .ok (.iadd, 1) := by decide +kernel
theorem dX4_traceBack_76 : decode cX4_traceBack 76 = .ok (.baload, 1) := by decide +kernel
theorem dX4_traceBack_77 : decode cX4_traceBack 77 = .ok (.ifCond .ne 9, 3) := by decide +kernel
theorem dX4_traceBack_80 : decode cX4_traceBack 80 = .ok (.iinc 3 (-1), 3) := by decide +kernel
theorem dX4_traceBack_83 : decode cX4_traceBack 83 = .ok (.goto (-32), 3) := by decide +kernel
theorem dX4_traceBack_86 : decode cX4_traceBack 86 = .ok (.iinc 4 (-1), 3) := by decide +kernel
theorem dX4_traceBack_89 : decode cX4_traceBack 89 = .ok (.goto (-79), 3) := by decide +kernel
theorem dX4_traceBack_92 : decode cX4_traceBack 92 = .ok (.return_, 1) := by decide +kernel
theorem dX5_init_0 : decode cX5_init 0 = .ok (.aload_n 0, 1) := by decide +kernel
theorem dX5_init_1 : decode cX5_init 1 = .ok (.invokespecial 3, 3) := by decide +kernel
theorem dX5_init_4 : decode cX5_init 4 = .ok (.aload_n 0, 1) := by decide +kernel
theorem dX5_init_5 : decode cX5_init 5 = .ok (.bipush 16, 2) := by decide +kernel
theorem dX5_init_7 : decode cX5_init 7 = .ok (.newarray .boolean, 2) := by decide +kernel
theorem dX5_init_9 : decode cX5_init 9 = .ok (.putfield 9, 3) := by decide +kernel
theorem dX5_init_12 : decode cX5_init 12 = .ok (.aload_n 0, 1) := by decide +kernel
theorem dX5_init_13 : decode cX5_init 13 = .ok (.iconst 5, 1) := by decide +kernel
theorem dX5_init_14 : decode cX5_init 14 = .ok (.newarray .int, 2) := by decide +kernel
theorem dX5_init_16 : decode cX5_init 16 = .ok (.putfield 15, 3) := by decide +kernel
theorem dX5_init_19 : decode cX5_init 19 = .ok (.aload_n 0, 1) := by decide +kernel
theorem dX5_init_20 : decode cX5_init 20 = .ok (.iconst 5, 1) := by decide +kernel
theorem dX5_init_21 : decode cX5_init 21 = .ok (.newarray .int, 2) := by decide +kernel
theorem dX5_init_23 : decode cX5_init 23 = .ok (.putfield 19, 3) := by decide +kernel
theorem dX5_init_26 : decode cX5_init 26 = .ok (.aload_n 0, 1) := by decide +kernel
theorem dX5_init_27 : decode cX5_init 27 = .ok (.aload_n 1, 1) := by decide +kernel
theorem dX5_init_28 : decode cX5_init 28 = .ok (.putfield 22, 3) := by decide +kernel
theorem dX5_init_31 : decode cX5_init 31 = .ok (.aload_n 0, 1) := by decide +kernel
theorem dX5_init_32 : decode cX5_init 32 = .ok (.aload_n 2, 1) := by decide +kernel
theorem dX5_init_33 : decode cX5_init 33 = .ok (.putfield 26, 3) := by decide +kernel
theorem dX5_init_36 : decode cX5_init 36 = .ok (.return_, 1) := by decide +kernel
theorem dX5_comeByRank_0 : decode cX5_comeByRank 0 = .ok (.aload_n 0, 1) := by decide +kernel
theorem dX5_comeByRank_1 : decode cX5_comeByRank 1 = .ok (.invokevirtual 30, 3) := by decide +kernel
theorem dX5_comeByRank_4 : decode cX5_comeByRank 4 = .ok (.iconst 0, 1) := by decide +kernel
theorem dX5_comeByRank_5 : decode cX5_comeByRank 5 = .ok (.istore_n 1, 1) := by decide +kernel
theorem dX5_comeByRank_6 : decode cX5_comeByRank 6 = .ok (.iload_n 1, 1) := by decide +kernel
theorem dX5_comeByRank_7 : decode cX5_comeByRank 7 = .ok (.aload_n 0, 1) := by decide +kernel
theorem dX5_comeByRank_8 : decode cX5_comeByRank 8 = .ok (.getfield 22, 3) := by decide +kernel
theorem dX5_comeByRank_11 : decode cX5_comeByRank 11 = .ok (.getfield 33, 3) := by decide +kernel
theorem dX5_comeByRank_14 : decode cX5_comeByRank 14 = .ok (.invokevirtual 39, 3) := by decide +kernel
theorem dX5_comeByRank_17 : decode cX5_comeByRank 17 = .ok (.if_icmp .ge 42, 3) := by decide +kernel
theorem dX5_comeByRank_20 : decode cX5_comeByRank 20 = .ok (.aload_n 0, 1) := by decide +kernel
theorem dX5_comeByRank_21 : decode cX5_comeByRank 21 = .ok (.getfield 22, 3) := by decide +kernel
theorem dX5_comeByRank_24 : decode cX5_comeByRank 24 = .ok (.getfield 33, 3) := by decide +kernel
theorem dX5_comeByRank_27 : decode cX5_comeByRank 27 = .ok (.iload_n 1, 1) := by decide +kernel
theorem dX5_comeByRank_28 : decode cX5_comeByRank 28 = .ok (.invokevirtual 45, 3) := by decide +kernel
theorem dX5_comeByRank_31 : decode cX5_comeByRank 31 = .ok (.checkcast 49, 3) := by decide +kernel
theorem dX5_comeByRank_34 : decode cX5_comeByRank 34 = .ok (.astore_n 2, 1) := by decide +kernel
theorem dX5_comeByRank_35 : decode cX5_comeByRank 35 = .ok (.aload_n 0, 1) := by decide +kernel
theorem dX5_comeByRank_36 : decode cX5_comeByRank 36 = .ok (.getfield 9, 3) := by decide +kernel
theorem dX5_comeByRank_39 : decode cX5_comeByRank 39 = .ok (.aload_n 2, 1) := by decide +kernel
theorem dX5_comeByRank_40 : decode cX5_comeByRank 40 = .ok (.getfield 51, 3) := by decide +kernel
theorem dX5_comeByRank_43 : decode cX5_comeByRank 43 = .ok (.baload, 1) := by decide +kernel
theorem dX5_comeByRank_44 : decode cX5_comeByRank 44 = .ok (.ifCond .ne 9, 3) := by decide +kernel
theorem dX5_comeByRank_47 : decode cX5_comeByRank 47 = .ok (.aload_n 0, 1) := by decide +kernel
theorem dX5_comeByRank_48 : decode cX5_comeByRank 48 = .ok (.aload_n 2, 1) := by decide +kernel
theorem dX5_comeByRank_49 : decode cX5_comeByRank 49 = .ok (.invokevirtual 55, 3) := by decide +kernel
theorem dX5_comeByRank_52 : decode cX5_comeByRank 52 = .ok (.pop, 1) := by decide +kernel
theorem dX5_comeByRank_53 : decode cX5_comeByRank 53 = .ok (.iinc 1 1, 3) := by decide +kernel
theorem dX5_comeByRank_56 : decode cX5_comeByRank 56 = .ok (.goto (-50), 3) := by decide +kernel
theorem dX5_comeByRank_59 : decode cX5_comeByRank 59 = .ok (.return_, 1) := by decide +kernel
theorem dX5_comeByBestOrder_0 : decode cX5_comeByBestOrder 0 = .ok (.aload_n 0, 1) := by decide +kernel
theorem dX5_comeByBestOrder_1 : decode cX5_comeByBestOrder 1 = .ok (.invokevirtual 30, 3) := by decide +kernel
theorem dX5_comeByBestOrder_4 : decode cX5_comeByBestOrder 4 = .ok (.aload_n 0, 1) := by decide +kernel
theorem dX5_comeByBestOrder_5 : decode cX5_comeByBestOrder 5 = .ok (.iconst (-1), 1) := by decide +kernel
theorem dX5_comeByBestOrder_6 : decode cX5_comeByBestOrder 6 = .ok (.putfield 59, 3) := by decide +kernel
theorem dX5_comeByBestOrder_9 : decode cX5_comeByBestOrder 9 = .ok (.aload_n 0, 1) := by decide +kernel
theorem dX5_comeByBestOrder_10 : decode cX5_comeByBestOrder 10 = .ok (.iconst 0, 1) := by decide +kernel
theorem dX5_comeByBestOrder_11 : decode cX5_comeByBestOrder 11 = .ok (.putfield 62, 3) := by decide +kernel
theorem dX5_comeByBestOrder_14 : decode cX5_comeByBestOrder 14 = .ok (.iconst 0, 1) := by decide +kernel
theorem dX5_comeByBestOrder_15 : decode cX5_comeByBestOrder 15 = .ok (.istore_n 1, 1) := by decide +kernel
theorem dX5_comeByBestOrder_16 : decode cX5_comeByBestOrder 16 = .ok (.iconst 0, 1) := by decide +kernel
theorem dX5_comeByBestOrder_17 : decode cX5_comeByBestOrder 17 = .ok (.istore_n 2, 1) := by decide +kernel
theorem dX5_comeByBestOrder_18 : decode cX5_comeByBestOrder 18 = .ok (.iload_n 2, 1) := by decide +kernel
theorem dX5_comeByBestOrder_19 : decode cX5_comeByBestOrder 19 = .ok (.aload_n 0, 1) := by decide +kernel
theorem dX5_comeByBestOrder_20 : decode cX5_comeByBestOrder 20 = .ok (.getfield 22, 3) := by decide +kernel
theorem dX5_comeByBestOrder_23 : decode cX5_comeByBestOrder 23 = .ok (.invokevirtual 65, 3) := by decide +kernel
theorem dX5_comeByBestOrder_26 : decode cX5_comeByBestOrder 26 = .ok (.if_icmp .ge 29, 3) := by decide +kernel
theorem dX5_comeByBestOrder_29 : decode cX5_comeByBestOrder 29 = .ok (.iload_n 1, 1) := by decide +kernel
theorem dX5_comeByBestOrder_30 : decode cX5_comeByBestOrder 30 = .ok (.aload_n 0, 1) := by decide +kernel
theorem dX5_comeByBestOrder_31 : decode cX5_comeByBestOrder 31 = .ok (.getfield 22, 3) := by decide +kernel
theorem dX5_comeByBestOrder_34 : decode cX5_comeByBestOrder 34 = .ok (.getfield 66, 3) := by decide +kernel
theorem dX5_comeByBestOrder_37 : decode cX5_comeByBestOrder 37 = .ok (.iload_n 2, 1) := by decide +kernel
theorem dX5_comeByBestOrder_38 : decode cX5_comeByBestOrder 38 = .ok (.invokevirtual 45, 3) := by decide +kernel
theorem dX5_comeByBestOrder_41 : decode cX5_comeByBestOrder 41 = .ok (.checkcast 49, 3) := by decide +kernel
theorem dX5_comeByBestOrder_44 : decode cX5_comeByBestOrder 44 = .ok (.getfield 69, 3) := by decide +kernel
theorem dX5_comeByBestOrder_47 : decode cX5_comeByBestOrder 47 = .ok (.iadd, 1) := by decide +kernel
theorem dX5_comeByBestOrder_48 : decode cX5_comeByBestOrder 48 = .ok (.istore_n 1, 1) := by decide +kernel
theorem dX5_comeByBestOrder_49 : decode cX5_comeByBestOrder 49 = .ok (.iinc 2 1, 3) := by decide +kernel
theorem dX5_comeByBestOrder_52 : decode cX5_comeByBestOrder 52 = .ok (.goto (-34), 3) := by decide +kernel
theorem dX5_comeByBestOrder_55 : decode cX5_comeByBestOrder 55 = .ok (.aload_n 0, 1) := by decide +kernel
theorem dX5_comeByBestOrder_56 : decode cX5_comeByBestOrder 56 = .ok (.iconst 0, 1) := by decide +kernel
theorem dX5_comeByBestOrder_57 : decode cX5_comeByBestOrder 57 = .ok (.iload_n 1, 1) := by decide +kernel
theorem dX5_comeByBestOrder_58 : decode cX5_comeByBestOrder 58 = .ok (.invokestatic 72, 3) := by decide +kernel
theorem dX5_comeByBestOrder_61 : decode cX5_comeByBestOrder 61 = .ok (.aload_n 0, 1) := by decide +kernel
theorem dX5_comeByBestOrder_62 : decode cX5_comeByBestOrder 62 = .ok (.invokevirtual 30, 3) := by decide +kernel
theorem dX5_comeByBestOrder_65 : decode cX5_comeByBestOrder 65 = .ok (.iconst 0, 1) := by decide +kernel
theorem dX5_comeByBestOrder_66 : decode cX5_comeByBestOrder 66 = .ok (.istore_n 2, 1) := by decide +kernel
theorem dX5_comeByBestOrder_67 : decode cX5_comeByBestOrder 67 = .ok (.iload_n 2, 1) := by decide +kernel
theorem dX5_comeByBestOrder_68 : decode cX5_comeByBestOrder 68 = .ok (.aload_n 0, 1) := by decide +kernel
theorem dX5_comeByBestOrder_69 : decode cX5_comeByBestOrder 69 = .ok (.getfield 62, 3) := by decide +kernel
theorem dX5_comeByBestOrder_72 : decode cX5_comeByBestOrder 72 = .ok (.if_icmp .ge 33, 3) := by decide +kernel
theorem dX5_comeByBestOrder_75 : decode cX5_comeByBestOrder 75 = .ok (.aload_n 0, 1) := by decide +kernel
theorem dX5_comeByBestOrder_76 : decode cX5_comeByBestOrder 76 = .ok (.getfield 22, 3) := by decide +kernel
theorem dX5_comeByBestOrder_79 : decode cX5_comeByBestOrder 79 = .ok (.aload_n 0, 1) := by decide +kernel
theorem dX5_comeByBestOrder_80 : decode cX5_comeByBestOrder 80 = .ok (.getfield 19, 3) := by decide +kernel
theorem dX5_comeByBestOrder_83 : decode cX5_comeByBestOrder 83 = .ok (.iload_n 2, 1) := by decide +kernel
theorem dX5_comeByBestOrder_84 : decode cX5_comeByBestOrder 84 = .ok (.iaload, 1) := by decide +kernel
theorem dX5_comeByBestOrder_85 : decode cX5_comeByBestOrder 85 = .ok (.invokevirtual 76, 3) := by decide +kernel
theorem dX5_comeByBestOrder_88 : decode cX5_comeByBestOrder 88 = .ok (.astore_n 3, 1) := by decide +kernel
theorem dX5_comeByBestOrder_89 : decode cX5_comeByBestOrder 89 = .ok (.aload_n 3, 1) := by decide +kernel
theorem dX5_comeByBestOrder_90 : decode cX5_comeByBestOrder 90 = .ok (.ifnull 9, 3) := by decide +kernel
theorem dX5_comeByBestOrder_93 : decode cX5_comeByBestOrder 93 = .ok (.aload_n 0, 1) := by decide +kernel
theorem dX5_comeByBestOrder_94 : decode cX5_comeByBestOrder 94 = .ok (.aload_n 3, 1) := by decide +kernel
theorem dX5_comeByBestOrder_95 : decode cX5_comeByBestOrder 95 = .ok (.invokevirtual 55, 3) := by decide +kernel
theorem dX5_comeByBestOrder_98 : decode cX5_comeByBestOrder 98 = .ok (.pop, 1) := by decide +kernel
theorem dX5_comeByBestOrder_99 : decode cX5_comeByBestOrder 99 = .ok (.iinc 2 1, 3) := by decide +kernel
theorem dX5_comeByBestOrder_102 : decode cX5_comeByBestOrder 102 = .ok (.goto (-35), 3) := by decide +kernel
theorem dX5_comeByBestOrder_105 : decode cX5_comeByBestOrder 105 = .ok (.return_, 1) := by decide +kernel
theorem dX5_tryOrders_0 : decode cX5_tryOrders 0 = .ok (.iload_n 2, 1) := by decide +kernel
theorem dX5_tryOrders_1 : decode cX5_tryOrders 1 = .ok (.aload_n 0, 1) := by decide +kernel
theorem dX5_tryOrders_2 : decode cX5_tryOrders 2 = .ok (.getfield 59, 3) := by decide +kernel
theorem dX5_tryOrders_5 : decode cX5_tryOrders 5 = .ok (.if_icmp .gt 4, 3) := by decide +kernel
theorem dX5_tryOrders_8 : decode cX5_tryOrders 8 = .ok (.return_, 1) := by decide +kernel
theorem dX5_tryOrders_9 : decode cX5_tryOrders 9 = .ok (.iconst 1, 1) := by decide +kernel
theorem dX5_tryOrders_10 : decode cX5_tryOrders 10 = .ok (.istore_n 3, 1) := by decide +kernel
theorem dX5_tryOrders_11 : decode cX5_tryOrders 11 = .ok (.iconst 0, 1) := by decide +kernel
theorem dX5_tryOrders_12 : decode cX5_tryOrders 12 = .ok (.istore 4, 2) := by decide +kernel
theorem dX5_tryOrders_14 : decode cX5_tryOrders 14 = .ok (.iload 4, 2) := by decide +kernel
theorem dX5_tryOrders_16 : decode cX5_tryOrders 16 = .ok (.aload_n 0, 1) := by decide +kernel
theorem dX5_tryOrders_17 : decode cX5_tryOrders 17 = .ok (.getfield 22, 3) := by decide +kernel
theorem dX5_tryOrders_20 : decode cX5_tryOrders 20 = .ok (.invokevirtual 65, 3) := by decide +kernel
theorem dX5_tryOrders_23 : decode cX5_tryOrders 23 = .ok (.if_icmp .ge 84, 3) := by decide +kernel
theorem dX5_tryOrders_26 : decode cX5_tryOrders 26 = .ok (.iload_n 1, 1) := by decide +kernel
theorem dX5_tryOrders_27 : decode cX5_tryOrders 27 = .ok (.iconst 5, 1) := by decide +kernel
theorem dX5_tryOrders_28 : decode cX5_tryOrders 28 = .ok (.if_icmp .ge 79, 3) := by decide +kernel
theorem dX5_tryOrders_31 : decode cX5_tryOrders 31 = .ok (.aload_n 0, 1) := by decide +kernel
theorem dX5_tryOrders_32 : decode cX5_tryOrders 32 = .ok (.getfield 22, 3) := by decide +kernel
theorem dX5_tryOrders_35 : decode cX5_tryOrders 35 = .ok (.getfield 66, 3) := by decide +kernel
theorem dX5_tryOrders_38 : decode cX5_tryOrders 38 = .ok (.iload 4, 2) := by decide +kernel
theorem dX5_tryOrders_40 : decode cX5_tryOrders 40 = .ok (.invokevirtual 45, 3) := by decide +kernel
theorem dX5_tryOrders_43 : decode cX5_tryOrders 43 = .ok (.checkcast 49, 3) := by decide +kernel
theorem dX5_tryOrders_46 : decode cX5_tryOrders 46 = .ok (.astore 5, 2) := by decide +kernel
theorem dX5_tryOrders_48 : decode cX5_tryOrders 48 = .ok (.aload_n 0, 1) := by decide +kernel
theorem dX5_tryOrders_49 : decode cX5_tryOrders 49 = .ok (.getfield 9, 3) := by decide +kernel
theorem dX5_tryOrders_52 : decode cX5_tryOrders 52 = .ok (.iload 4, 2) := by decide +kernel
theorem dX5_tryOrders_54 : decode cX5_tryOrders 54 = .ok (.baload, 1) := by decide +kernel
theorem dX5_tryOrders_55 : decode cX5_tryOrders 55 = .ok (.ifCond .ne 46, 3) := by decide +kernel
theorem dX5_tryOrders_58 : decode cX5_tryOrders 58 = .ok (.iload_n 2, 1) := by decide +kernel
theorem dX5_tryOrders_59 : decode cX5_tryOrders 59 = .ok (.aload_n 0, 1) := by decide +kernel
theorem dX5_tryOrders_60 : decode cX5_tryOrders 60 = .ok (.getfield 59, 3) := by decide +kernel
theorem dX5_tryOrders_63 : decode cX5_tryOrders 63 = .ok (.if_icmp .le 38, 3) := by decide +kernel
theorem dX5_tryOrders_66 : decode cX5_tryOrders 66 = .ok (.iconst 0, 1) := by decide +kernel
theorem dX5_tryOrders_67 : decode cX5_tryOrders 67 = .ok (.istore_n 3, 1) := by decide +kernel
theorem dX5_tryOrders_68 : decode cX5_tryOrders 68 = .ok (.aload_n 0, 1) := by decide +kernel
theorem dX5_tryOrders_69 : decode cX5_tryOrders 69 = .ok (.getfield 15, 3) := by decide +kernel
theorem dX5_tryOrders_72 : decode cX5_tryOrders 72 = .ok (.iload_n 1, 1) := by decide +kernel
theorem dX5_tryOrders_73 : decode cX5_tryOrders 73 = .ok (.iload 4, 2) := by decide +kernel
theorem dX5_tryOrders_75 : decode cX5_tryOrders 75 = .ok (.iastore, 1) := by decide +kernel
theorem dX5_tryOrders_76 : decode cX5_tryOrders 76 = .ok (.aload_n 0, 1) := by decide +kernel
theorem dX5_tryOrders_77 : decode cX5_tryOrders 77 = .ok (.aload 5, 2) := by decide +kernel
theorem dX5_tryOrders_79 : decode cX5_tryOrders 79 = .ok (.invokevirtual 55, 3) := by decide +kernel
theorem dX5_tryOrders_82 : decode cX5_tryOrders 82 = .ok (.istore 6, 2) := by decide +kernel
theorem dX5_tryOrders_84 : decode cX5_tryOrders 84 = .ok (.aload_n 0, 1) := by decide +kernel
theorem dX5_tryOrders_85 : decode cX5_tryOrders 85 = .ok (.iload_n 1, 1) := by decide +kernel
theorem dX5_tryOrders_86 : decode cX5_tryOrders 86 = .ok (.iconst 1, 1) := by decide +kernel
theorem dX5_tryOrders_87 : decode cX5_tryOrders 87 = .ok (.iadd, 1) := by decide +kernel
theorem dX5_tryOrders_88 : decode cX5_tryOrders 88 = .ok (.iload_n 2, 1) := by decide +kernel
theorem dX5_tryOrders_89 : decode cX5_tryOrders 89 = .ok (.iload 6, 2) := by decide +kernel
theorem dX5_tryOrders_91 : decode cX5_tryOrders 91 = .ok (.isub, 1) := by decide +kernel
theorem dX5_tryOrders_92 : decode cX5_tryOrders 92 = .ok (.invokestatic 72, 3) := by decide +kernel
theorem dX5_tryOrders_95 : decode cX5_tryOrders 95 = .ok (.aload_n 0, 1) := by decide +kernel
theorem dX5_tryOrders_96 : decode cX5_tryOrders 96 = .ok (.aload 5, 2) := by decide +kernel
theorem dX5_tryOrders_98 : decode cX5_tryOrders 98 = .ok (.invokevirtual 80, 3) := by decide +kernel
theorem dX5_tryOrders_101 : decode cX5_tryOrders 101 = .ok (.iinc 4 1, 3) := by decide +kernel
theorem dX5_tryOrders_104 : decode cX5_tryOrders 104 = .ok (.goto (-90), 3) := by decide +kernel
theorem dX5_tryOrders_107 : decode cX5_tryOrders 107 = .ok (.iload_n 3, 1) := by decide +kernel
theorem dX5_tryOrders_108 : decode cX5_tryOrders 108 = .ok (.ifCond .eq 9, 3) := by decide +kernel
theorem dX5_tryOrders_111 : decode cX5_tryOrders 111 = .ok (.aload_n 0, 1) := by decide +kernel
theorem dX5_tryOrders_112 : decode cX5_tryOrders 112 = .ok (.iload_n 1, 1) := by decide +kernel
theorem dX5_tryOrders_113 : decode cX5_tryOrders 113 = .ok (.iload_n 2, 1) := by decide +kernel
theorem dX5_tryOrders_114 : decode cX5_tryOrders 114 = .ok (.invokevirtual 84, 3) := by decide +kernel
theorem dX5_tryOrders_117 : decode cX5_tryOrders 117 = .ok (.return_, 1) := by decide +kernel
theorem dX5_keepOrder_0 : decode cX5_keepOrder 0 = .ok (.aload_n 0, 1) := by decide +kernel
theorem dX5_keepOrder_1 : decode cX5_keepOrder 1 = .ok (.iload_n 2, 1) := by decide +kernel
theorem dX5_keepOrder_2 : decode cX5_keepOrder 2 = .ok (.putfield 59, 3) := by decide +kernel
theorem dX5_keepOrder_5 : decode cX5_keepOrder 5 = .ok (.aload_n 0, 1) := by decide +kernel
theorem dX5_keepOrder_6 : decode cX5_keepOrder 6 = .ok (.iload_n 1, 1) := by decide +kernel
theorem dX5_keepOrder_7 : decode cX5_keepOrder 7 = .ok (.putfield 62, 3) := by decide +kernel
theorem dX5_keepOrder_10 : decode cX5_keepOrder 10 = .ok (.iconst 0, 1) := by decide +kernel
theorem dX5_keepOrder_11 : decode cX5_keepOrder 11 = .ok (.istore_n 3, 1) := by decide +kernel
theorem dX5_keepOrder_12 : decode cX5_keepOrder 12 = .ok (.iload_n 3, 1) := by decide +kernel
theorem dX5_keepOrder_13 : decode cX5_keepOrder 13 = .ok (.iload_n 1, 1) := by decide +kernel
theorem dX5_keepOrder_14 : decode cX5_keepOrder 14 = .ok (.if_icmp .ge 21, 3) := by decide +kernel
theorem dX5_keepOrder_17 : decode cX5_keepOrder 17 = .ok (.aload_n 0, 1) := by decide +kernel
theorem dX5_keepOrder_18 : decode cX5_keepOrder 18 = .ok (.getfield 19, 3) := by decide +kernel
theorem dX5_keepOrder_21 : decode cX5_keepOrder 21 = .ok (.iload_n 3, 1) := by decide +kernel
theorem dX5_keepOrder_22 : decode cX5_keepOrder 22 = .ok (.aload_n 0, 1) := by decide +kernel
theorem dX5_keepOrder_23 : decode cX5_keepOrder 23 = .ok (.getfield 15, 3) := by decide +kernel
theorem dX5_keepOrder_26 : decode cX5_keepOrder 26 = .ok (.iload_n 3, 1) := by decide +kernel
theorem dX5_keepOrder_27 : decode cX5_keepOrder 27 = .ok (.iaload, 1) := by decide +kernel
theorem dX5_keepOrder_28 : decode cX5_keepOrder 28 = .ok (.iastore, 1) := by decide +kernel
theorem dX5_keepOrder_29 : decode cX5_keepOrder 29 = .ok (.iinc 3 1, 3) := by decide +kernel
theorem dX5_keepOrder_32 : decode cX5_keepOrder 32 = .ok (.goto (-20), 3) := by decide +kernel
theorem dX5_keepOrder_35 : decode cX5_keepOrder 35 = .ok (.return_, 1) := by decide +kernel
theorem dX5_startAnew_0 : decode cX5_startAnew 0 = .ok (.aload_n 0, 1) := by decide +kernel
theorem dX5_startAnew_1 : decode cX5_startAnew 1 = .ok (.getfield 22, 3) := by decide +kernel
theorem dX5_startAnew_4 : decode cX5_startAnew 4 = .ok (.invokevirtual 88, 3) := by decide +kernel
theorem dX5_startAnew_7 : decode cX5_startAnew 7 = .ok (.iconst 0, 1) := by decide +kernel
theorem dX5_startAnew_8 : decode cX5_startAnew 8 = .ok (.istore_n 1, 1) := by decide +kernel
theorem dX5_startAnew_9 : decode cX5_startAnew 9 = .ok (.iload_n 1, 1) := by decide +kernel
theorem dX5_startAnew_10 : decode cX5_startAnew 10 = .ok (.bipush 16, 2) := by decide +kernel
theorem dX5_startAnew_12 : decode cX5_startAnew 12 = .ok (.if_icmp .ge 16, 3) := by decide +kernel
theorem dX5_startAnew_15 : decode cX5_startAnew 15 = .ok (.aload_n 0, 1) := by decide +kernel
theorem dX5_startAnew_16 : decode cX5_startAnew 16 = .ok (.getfield 9, 3) := by decide +kernel
theorem dX5_startAnew_19 : decode cX5_startAnew 19 = .ok (.iload_n 1, 1) := by decide +kernel
theorem dX5_startAnew_20 : decode cX5_startAnew 20 = .ok (.iconst 0, 1) := by decide +kernel
theorem dX5_startAnew_21 : decode cX5_startAnew 21 = .ok (.bastore, 1) := by decide +kernel
theorem dX5_startAnew_22 : decode cX5_startAnew 22 = .ok (.iinc 1 1, 3) := by decide +kernel
theorem dX5_startAnew_25 : decode cX5_startAnew 25 = .ok (.goto (-16), 3) := by decide +kernel
theorem dX5_startAnew_28 : decode cX5_startAnew 28 = .ok (.return_, 1) := by decide +kernel
theorem dX5_comeWithPartner_0 : decode cX5_comeWithPartner 0 = .ok (.aload_n 0, 1) := by decide +kernel
theorem dX5_comeWithPartner_1 : decode cX5_comeWithPartner 1 = .ok (.getfield 22, 3) := by decide +kernel
theorem dX5_comeWithPartner_4 : decode cX5_comeWithPartner 4 = .ok (.aload_n 1, 1) := by decide +kernel
theorem dX5_comeWithPartner_5 : decode cX5_comeWithPartner 5 = .ok (.getfield 91, 3) := by decide +kernel
theorem dX5_comeWithPartner_8 : decode cX5_comeWithPartner 8 = .ok (.invokevirtual 76, 3) := by decide +kernel
theorem dX5_comeWithPartner_11 : decode cX5_comeWithPartner 11 = .ok (.astore_n 2, 1) := by decide +kernel
theorem dX5_comeWithPartner_12 : decode cX5_comeWithPartner 12 = .ok (.aload_n 0, 1) := by decide +kernel
theorem dX5_comeWithPartner_13 : decode cX5_comeWithPartner 13 = .ok (.getfield 9, 3) := by decide +kernel
theorem dX5_comeWithPartner_16 : decode cX5_comeWithPartner 16 = .ok (.aload_n 1, 1) := by decide +kernel
theorem dX5_comeWithPartner_17 : decode cX5_comeWithPartner 17 = .ok (.getfield 51, 3) := by decide +kernel
theorem dX5_comeWithPartner_20 : decode cX5_comeWithPartner 20 = .ok (.iconst 1, 1) := by decide +kernel
theorem dX5_comeWithPartner_21 : decode cX5_comeWithPartner 21 = .ok (.bastore, 1) := by decide +kernel
theorem dX5_comeWithPartner_22 : decode cX5_comeWithPartner 22 = .ok (.aload_n 0, 1) := by decide +kernel
theorem dX5_comeWithPartner_23 : decode cX5_comeWithPartner 23 = .ok (.getfield 26, 3) := by decide +kernel
theorem dX5_comeWithPartner_26 : decode cX5_comeWithPartner 26 = .ok (.aload_n 1, 1) := by decide +kernel
theorem dX5_comeWithPartner_27 : decode cX5_comeWithPartner 27 = .ok (.invokevirtual 94, 3) := by decide +kernel
theorem dX5_comeWithPartner_30 : decode cX5_comeWithPartner 30 = .ok (.iconst (-1), 1) := by decide +kernel
theorem dX5_comeWithPartner_31 : decode cX5_comeWithPartner 31 = .ok (.if_icmp .eq 7, 3) := by decide +kernel
theorem dX5_comeWithPartner_34 : decode cX5_comeWithPartner 34 = .ok (.iconst 1, 1) := by decide +kernel
theorem dX5_comeWithPartner_35 : decode cX5_comeWithPartner 35 = .ok (.goto 4, 3) := by decide +kernel
theorem dX5_comeWithPartner_38 : decode cX5_comeWithPartner 38 = .ok (.iconst 0, 1) := by decide +kernel
theorem dX5_comeWithPartner_39 : decode cX5_comeWithPartner 39 = .ok (.istore_n 3, 1) := by decide +kernel
theorem dX5_comeWithPartner_40 : decode cX5_comeWithPartner 40 = .ok (.iload_n 3, 1) := by decide +kernel
theorem dX5_comeWithPartner_41 : decode cX5_comeWithPartner 41 = .ok (.ifCond .eq 21, 3) := by decide +kernel
theorem dX5_comeWithPartner_44 : decode cX5_comeWithPartner 44 = .ok (.aload_n 1, 1) := by decide +kernel
theorem dX5_comeWithPartner_45 : decode cX5_comeWithPartner 45 = .ok (.aload_n 0, 1) := by decide +kernel
theorem dX5_comeWithPartner_46 : decode cX5_comeWithPartner 46 = .ok (.getfield 26, 3) := by decide +kernel
theorem dX5_comeWithPartner_49 : decode cX5_comeWithPartner 49 = .ok (.getfield 99, 3) := by decide +kernel
theorem dX5_comeWithPartner_52 : decode cX5_comeWithPartner 52 = .ok (.aload_n 0, 1) := by decide +kernel
theorem dX5_comeWithPartner_53 : decode cX5_comeWithPartner 53 = .ok (.getfield 26, 3) := by decide +kernel
theorem dX5_comeWithPartner_56 : decode cX5_comeWithPartner 56 = .ok (.getfield 102, 3) := by decide +kernel
theorem dX5_comeWithPartner_59 : decode cX5_comeWithPartner 59 = .ok (.invokevirtual 105, 3) := by decide +kernel
theorem dX5_comeWithPartner_62 : decode cX5_comeWithPartner 62 = .ok (.aload_n 2, 1) := by decide +kernel
theorem dX5_comeWithPartner_63 : decode cX5_comeWithPartner 63 = .ok (.ifnonnull 16, 3) := by decide +kernel
theorem dX5_comeWithPartner_66 : decode cX5_comeWithPartner 66 = .ok (.iload_n 3, 1) := by decide +kernel
theorem dX5_comeWithPartner_67 : decode cX5_comeWithPartner 67 = .ok (.ifCond .eq 7, 3) := by decide +kernel
theorem dX5_comeWithPartner_70 : decode cX5_comeWithPartner 70 = .ok (.iconst 0, 1) := by decide +kernel
theorem dX5_comeWithPartner_71 : decode cX5_comeWithPartner 71 = .ok (.goto 7, 3) := by decide +kernel
theorem dX5_comeWithPartner_74 : decode cX5_comeWithPartner 74 = .ok (.aload_n 1, 1) := by decide +kernel
theorem dX5_comeWithPartner_75 : decode cX5_comeWithPartner 75 = .ok (.getfield 69, 3) := by decide +kernel
theorem dX5_comeWithPartner_78 : decode cX5_comeWithPartner 78 = .ok (.ireturn, 1) := by decide +kernel
theorem dX5_comeWithPartner_79 : decode cX5_comeWithPartner 79 = .ok (.aload_n 0, 1) := by decide +kernel
theorem dX5_comeWithPartner_80 : decode cX5_comeWithPartner 80 = .ok (.getfield 9, 3) := by decide +kernel
theorem dX5_comeWithPartner_83 : decode cX5_comeWithPartner 83 = .ok (.aload_n 2, 1) := by decide +kernel
theorem dX5_comeWithPartner_84 : decode cX5_comeWithPartner 84 = .ok (.getfield 51, 3) := by decide +kernel
theorem dX5_comeWithPartner_87 : decode cX5_comeWithPartner 87 = .ok (.iconst 1, 1) := by decide +kernel
theorem dX5_comeWithPartner_88 : decode cX5_comeWithPartner 88 = .ok (.bastore, 1) := by decide +kernel
theorem dX5_comeWithPartner_89 : decode cX5_comeWithPartner 89 = .ok (.iload_n 3, 1) := by decide +kernel
theorem dX5_comeWithPartner_90 : decode cX5_comeWithPartner 90 = .ok (.ifCond .eq 35, 3) := by decide +kernel
theorem dX5_comeWithPartner_93 : decode cX5_comeWithPartner 93 = .ok (.aload_n 0, 1) := by decide +kernel
theorem dX5_comeWithPartner_94 : decode cX5_comeWithPartner 94 = .ok (.getfield 26, 3) := by decide +kernel
theorem dX5_comeWithPartner_97 : decode cX5_comeWithPartner 97 = .ok (.aload_n 2, 1) := by decide +kernel
theorem dX5_comeWithPartner_98 : decode cX5_comeWithPartner 98 = .ok (.invokevirtual 94, 3) := by decide +kernel
theorem dX5_comeWithPartner_101 : decode cX5_comeWithPartner 101 = .ok (.iconst (-1), 1) := by decide +kernel
theorem dX5_comeWithPartner_102 : decode cX5_comeWithPartner 102 = .ok (.if_icmp .eq 23, 3) := by decide +kernel
theorem dX5_comeWithPartner_105 : decode cX5_comeWithPartner 105 = .ok (.aload_n 2, 1) := by decide +kernel
theorem dX5_comeWithPartner_106 : decode cX5_comeWithPartner 106 = .ok (.aload_n 0, 1) := by decide +kernel
theorem dX5_comeWithPartner_107 : decode cX5_comeWithPartner 107 = .ok (.getfield 26, 3) := by decide +kernel
theorem dX5_comeWithPartner_110 : decode cX5_comeWithPartner 110 = .ok (.getfield 99, 3) := by decide +kernel
theorem dX5_comeWithPartner_113 : decode cX5_comeWithPartner 113 = .ok (.aload_n 0, 1) := by decide +kernel
theorem dX5_comeWithPartner_114 : decode cX5_comeWithPartner 114 = .ok (.getfield 26, 3) := by decide +kernel
theorem dX5_comeWithPartner_117 : decode cX5_comeWithPartner 117 = .ok (.getfield 102, 3) := by decide +kernel
theorem dX5_comeWithPartner_120 : decode cX5_comeWithPartner 120 = .ok (.invokevirtual 105, 3) := by decide +kernel
theorem dX5_comeWithPartner_123 : decode cX5_comeWithPartner 123 = .ok (.iconst 0, 1) := by decide +kernel
theorem dX5_comeWithPartner_124 : decode cX5_comeWithPartner 124 = .ok (.ireturn, 1) := by decide +kernel
theorem dX5_comeWithPartner_125 : decode cX5_comeWithPartner 125 = .ok (.aload_n 1, 1) := by decide +kernel
theorem dX5_comeWithPartner_126 : decode cX5_comeWithPartner 126 = .ok (.iconst 0, 1) := by decide +kernel
theorem dX5_comeWithPartner_127 : decode cX5_comeWithPartner 127 = .ok (.putfield 109, 3) := by decide +kernel
theorem dX5_comeWithPartner_130 : decode cX5_comeWithPartner 130 = .ok (.aload_n 1, 1) := by decide +kernel
theorem dX5_comeWithPartner_131 : decode cX5_comeWithPartner 131 = .ok (.getfield 69, 3) := by decide +kernel
theorem dX5_comeWithPartner_134 : decode cX5_comeWithPartner 134 = .ok (.aload_n 2, 1) := by decide +kernel
theorem dX5_comeWithPartner_135 : decode cX5_comeWithPartner 135 = .ok (.getfield 69, 3) := by decide +kernel
theorem dX5_comeWithPartner_138 : decode cX5_comeWithPartner 138 = .ok (.iadd, 1) := by decide +kernel
theorem dX5_comeWithPartner_139 : decode cX5_comeWithPartner 139 = .ok (.ireturn, 1) := by decide +kernel
theorem dX5_takeBackWithPartner_0 : decode cX5_takeBackWithPartner 0 = .ok (.aload_n 0, 1) := by decide +kernel
theorem dX5_takeBackWithPartner_1 : decode cX5_takeBackWithPartner 1 = .ok (.aload_n 1, 1) := by decide +kernel
theorem dX5_takeBackWithPartner_2 : decode cX5_takeBackWithPartner 2 = .ok (.invokevirtual 113, 3) := by decide +kernel
theorem dX5_takeBackWithPartner_5 : decode cX5_takeBackWithPartner 5 = .ok (.aload_n 0, 1) := by decide +kernel
theorem dX5_takeBackWithPartner_6 : decode cX5_takeBackWithPartner 6 = .ok (.getfield 22, 3) := by decide +kernel
theorem dX5_takeBackWithPartner_9 : decode cX5_takeBackWithPartner 9 = .ok (.aload_n 1, 1) := by decide +kernel
theorem dX5_takeBackWithPartner_10 : decode cX5_takeBackWithPartner 10 = .ok (.getfield 91, 3) := by decide +kernel
theorem dX5_takeBackWithPartner_13 : decode cX5_takeBackWithPartner 13 = .ok (.invokevirtual 76, 3) := by decide +kernel
theorem dX5_takeBackWithPartner_16 : decode cX5_takeBackWithPartner 16 = .ok (.astore_n 2, 1) := by decide +kernel
theorem dX5_takeBackWithPartner_17 : decode cX5_takeBackWithPartner 17 = .ok (.aload_n 2, 1) := by decide +kernel
theorem dX5_takeBackWithPartner_18 : decode cX5_takeBackWithPartner 18 = .ok (.ifnull 8, 3) := by decide +kernel
theorem dX5_takeBackWithPartner_21 : decode cX5_takeBackWithPartner 21 = .ok (.aload_n 0, 1) := by decide +kernel
theorem dX5_takeBackWithPartner_22 : decode cX5_takeBackWithPartner 22 = .ok (.aload_n 2, 1) := by decide +kernel
theorem dX5_takeBackWithPartner_23 : decode cX5_takeBackWithPartner 23 = .ok (.invokevirtual 113, 3) := by decide +kernel
theorem dX5_takeBackWithPartner_26 : decode cX5_takeBackWithPartner 26 = .ok (.return_, 1) := by decide +kernel
theorem dX5_takeBack_0 : decode cX5_takeBack 0 = .ok (.aload_n 1, 1) := by decide +kernel
theorem dX5_takeBack_1 : decode cX5_takeBack 1 = .ok (.iconst 0, 1) := by decide +kernel
theorem dX5_takeBack_2 : decode cX5_takeBack 2 = .ok (.putfield 109, 3) := by decide +kernel
theorem dX5_takeBack_5 : decode cX5_takeBack 5 = .ok (.aload_n 0, 1) := by decide +kernel
theorem dX5_takeBack_6 : decode cX5_takeBack 6 = .ok (.getfield 9, 3) := by decide +kernel
theorem dX5_takeBack_9 : decode cX5_takeBack 9 = .ok (.aload_n 1, 1) := by decide +kernel
theorem dX5_takeBack_10 : decode cX5_takeBack 10 = .ok (.getfield 51, 3) := by decide +kernel
theorem dX5_takeBack_13 : decode cX5_takeBack 13 = .ok (.iconst 0, 1) := by decide +kernel
theorem dX5_takeBack_14 : decode cX5_takeBack 14 = .ok (.bastore, 1) := by decide +kernel
theorem dX5_takeBack_15 : decode cX5_takeBack 15 = .ok (.return_, 1) := by decide +kernel
theorem dX6_init_0 : decode cX6_init 0 = .ok (.aload_n 0, 1) := by decide +kernel
theorem dX6_init_1 : decode cX6_init 1 = .ok (.invokespecial 3, 3) := by decide +kernel
theorem dX6_init_4 : decode cX6_init 4 = .ok (.aload_n 0, 1) := by decide +kernel
theorem dX6_init_5 : decode cX6_init 5 = .ok (.bipush 16, 2) := by decide +kernel
theorem dX6_init_7 : decode cX6_init 7 = .ok (.newarray .int, 2) := by decide +kernel
theorem dX6_init_9 : decode cX6_init 9 = .ok (.putfield 9, 3) := by decide +kernel
theorem dX6_init_12 : decode cX6_init 12 = .ok (.aload_n 0, 1) := by decide +kernel
theorem dX6_init_13 : decode cX6_init 13 = .ok (.bipush 16, 2) := by decide +kernel
theorem dX6_init_15 : decode cX6_init 15 = .ok (.newarray .int, 2) := by decide +kernel
theorem dX6_init_17 : decode cX6_init 17 = .ok (.putfield 15, 3) := by decide +kernel
theorem dX6_init_20 : decode cX6_init 20 = .ok (.aload_n 0, 1) := by decide +kernel
theorem dX6_init_21 : decode cX6_init 21 = .ok (.bipush 16, 2) := by decide +kernel
theorem dX6_init_23 : decode cX6_init 23 = .ok (.newarray .int, 2) := by decide +kernel
theorem dX6_init_25 : decode cX6_init 25 = .ok (.putfield 18, 3) := by decide +kernel
theorem dX6_init_28 : decode cX6_init 28 = .ok (.aload_n 0, 1) := by decide +kernel
theorem dX6_init_29 : decode cX6_init 29 = .ok (.bipush 16, 2) := by decide +kernel
theorem dX6_init_31 : decode cX6_init 31 = .ok (.newarray .int, 2) := by decide +kernel
theorem dX6_init_33 : decode cX6_init 33 = .ok (.putfield 21, 3) := by decide +kernel
theorem dX6_init_36 : decode cX6_init 36 = .ok (.aload_n 0, 1) := by decide +kernel
theorem dX6_init_37 : decode cX6_init 37 = .ok (.bipush 16, 2) := by decide +kernel
theorem dX6_init_39 : decode cX6_init 39 = .ok (.newarray .int, 2) := by decide +kernel
theorem dX6_init_41 : decode cX6_init 41 = .ok (.putfield 24, 3) := by decide +kernel
theorem dX6_init_44 : decode cX6_init 44 = .ok (.aload_n 0, 1) := by decide +kernel
theorem dX6_init_45 : decode cX6_init 45 = .ok (.sipush 256, 3) := by decide +kernel
theorem dX6_init_48 : decode cX6_init 48 = .ok (.newarray .int, 2) := by decide +kernel
theorem dX6_init_50 : decode cX6_init 50 = .ok (.putfield 27, 3) := by decide +kernel
theorem dX6_init_53 : decode cX6_init 53 = .ok (.aload_n 0, 1) := by decide +kernel
theorem dX6_init_54 : decode cX6_init 54 = .ok (.bipush 16, 2) := by decide +kernel
theorem dX6_init_56 : decode cX6_init 56 = .ok (.newarray .int, 2) := by decide +kernel
theorem dX6_init_58 : decode cX6_init 58 = .ok (.putfield 30, 3) := by decide +kernel
theorem dX6_init_61 : decode cX6_init 61 = .ok (.aload_n 0, 1) := by decide +kernel
theorem dX6_init_62 : decode cX6_init 62 = .ok (.bipush 16, 2) := by decide +kernel
theorem dX6_init_64 : decode cX6_init 64 = .ok (.newarray .int, 2) := by decide +kernel
theorem dX6_init_66 : decode cX6_init 66 = .ok (.putfield 33, 3) := by decide +kernel
theorem dX6_init_69 : decode cX6_init 69 = .ok (.aload_n 0, 1) := by decide +kernel
theorem dX6_init_70 : decode cX6_init 70 = .ok (.aload_n 1, 1) := by decide +kernel
theorem dX6_init_71 : decode cX6_init 71 = .ok (.putfield 36, 3) := by decide +kernel
theorem dX6_init_74 : decode cX6_init 74 = .ok (.aload_n 0, 1) := by decide +kernel
theorem dX6_init_75 : decode cX6_init 75 = .ok (.aload_n 2, 1) := by decide +kernel
theorem dX6_init_76 : decode cX6_init 76 = .ok (.putfield 40, 3) := by decide +kernel
theorem dX6_init_79 : decode cX6_init 79 = .ok (.return_, 1) := by decide +kernel
theorem dX6_forget_0 : decode cX6_forget 0 = .ok (.aload_n 0, 1) := by decide +kernel
theorem dX6_forget_1 : decode cX6_forget 1 = .ok (.iconst 0, 1) := by decide +kernel
theorem dX6_forget_2 : decode cX6_forget 2 = .ok (.putfield 44, 3) := by decide +kernel
theorem dX6_forget_5 : decode cX6_forget 5 = .ok (.return_, 1) := by decide +kernel
theorem dX6_bringUpToDate_0 : decode cX6_bringUpToDate 0 = .ok (.aload_n 0, 1) := by decide +kernel
theorem dX6_bringUpToDate_1 : decode cX6_bringUpToDate 1 = .ok (.getfield 44, 3) := by decide +kernel
theorem dX6_bringUpToDate_4 : decode cX6_bringUpToDate 4 = .ok (.ifCond .eq 4, 3) := by decide +kernel
theorem dX6_bringUpToDate_7 : decode cX6_bringUpToDate 7 = .ok (.return_, 1) := by decide +kernel
theorem dX6_bringUpToDate_8 : decode cX6_bringUpToDate 8 = .ok (.aload_n 0, 1) := by decide +kernel
theorem dX6_bringUpToDate_9 : decode cX6_bringUpToDate 9 = .ok (.invokevirtual 48, 3) := by decide +kernel
theorem dX6_bringUpToDate_12 : decode cX6_bringUpToDate 12 = .ok (.iconst 0, 1) := by decide +kernel
theorem dX6_bringUpToDate_13 : decode cX6_bringUpToDate 13 = .ok (.istore_n 1, 1) := by decide +kernel
theorem dX6_bringUpToDate_14 : decode cX6_bringUpToDate 14 = .ok (.iload_n 1, 1) := by decide +kernel
theorem dX6_bringUpToDate_15 : decode cX6_bringUpToDate 15 = .ok (.sipush 480, 3) := by decide +kernel
theorem dX6_bringUpToDate_18 : decode cX6_bringUpToDate 18 = .ok (.if_icmp .ge 61, 3) := by decide +kernel
theorem dX6_bringUpToDate_21 : decode cX6_bringUpToDate 21 = .ok (.iconst 0, 1) := by decide +kernel
theorem dX6_bringUpToDate_22 : decode cX6_bringUpToDate 22 = .ok (.istore_n 2, 1) := by decide +kernel
theorem dX6_bringUpToDate_23 : decode cX6_bringUpToDate 23 = .ok (.iload_n 2, 1) := by decide +kernel
theorem dX6_bringUpToDate_24 : decode cX6_bringUpToDate 24 = .ok (.aload_n 0, 1) := by decide +kernel
theorem dX6_bringUpToDate_25 : decode cX6_bringUpToDate 25 = .ok (.getfield 40, 3) := by decide +kernel
theorem dX6_bringUpToDate_28 : decode cX6_bringUpToDate 28 = .ok (.getfield 51, 3) := by decide +kernel
theorem dX6_bringUpToDate_31 : decode cX6_bringUpToDate 31 = .ok (.invokevirtual 57, 3) := by decide +kernel
theorem dX6_bringUpToDate_34 : decode cX6_bringUpToDate 34 = .ok (.if_icmp .ge 39, 3) := by decide +kernel
theorem dX6_bringUpToDate_37 : decode cX6_bringUpToDate 37 = .ok (.aload_n 0, 1) := by decide +kernel
theorem dX6_bringUpToDate_38 : decode cX6_bringUpToDate 38 = .ok (.getfield 40, 3) := by decide +kernel
theorem dX6_bringUpToDate_41 : decode cX6_bringUpToDate 41 = .ok (.getfield 51, 3) := by decide +kernel
theorem dX6_bringUpToDate_44 : decode cX6_bringUpToDate 44 = .ok (.iload_n 2, 1) := by decide +kernel
theorem dX6_bringUpToDate_45 : decode cX6_bringUpToDate 45 = .ok (.invokevirtual 63, 3) := by decide +kernel
theorem dX6_bringUpToDate_48 : decode cX6_bringUpToDate 48 = .ok (.checkcast 67, 3) := by decide +kernel
theorem dX6_bringUpToDate_51 : decode cX6_bringUpToDate 51 = .ok (.astore_n 3, 1) := by decide +kernel
theorem dX6_bringUpToDate_52 : decode cX6_bringUpToDate 52 = .ok (.aload_n 0, 1) := by decide +kernel
theorem dX6_bringUpToDate_53 : decode cX6_bringUpToDate 53 = .ok (.aload_n 3, 1) := by decide +kernel
theorem dX6_bringUpToDate_54 : decode cX6_bringUpToDate 54 = .ok (.iload_n 1, 1) := by decide +kernel
theorem dX6_bringUpToDate_55 : decode cX6_bringUpToDate 55 = .ok (.invokevirtual 69, 3) := by decide +kernel
theorem dX6_bringUpToDate_58 : decode cX6_bringUpToDate 58 = .ok (.ifCond .eq 9, 3) := by decide +kernel
theorem dX6_bringUpToDate_61 : decode cX6_bringUpToDate 61 = .ok (.aload_n 0, 1) := by decide +kernel
theorem dX6_bringUpToDate_62 : decode cX6_bringUpToDate 62 = .ok (.aload_n 3, 1) := by decide +kernel
theorem dX6_bringUpToDate_63 : decode cX6_bringUpToDate 63 = .ok (.iload_n 1, 1) := by decide +kernel
theorem dX6_bringUpToDate_64 : decode cX6_bringUpToDate 64 = .ok (.invokevirtual 73, 3) := by decide +kernel
theorem dX6_bringUpToDate_67 : decode cX6_bringUpToDate 67 = .ok (.iinc 2 1, 3) := by decide +kernel
theorem dX6_bringUpToDate_70 : decode cX6_bringUpToDate 70 = .ok (.goto (-47), 3) := by decide +kernel
theorem dX6_bringUpToDate_73 : decode cX6_bringUpToDate 73 = .ok (.iinc 1 1, 3) := by decide +kernel
theorem dX6_bringUpToDate_76 : decode cX6_bringUpToDate 76 = .ok (.goto (-62), 3) := by decide +kernel
theorem dX6_bringUpToDate_79 : decode cX6_bringUpToDate 79 = .ok (.aload_n 0, 1) := by decide +kernel
theorem dX6_bringUpToDate_80 : decode cX6_bringUpToDate 80 = .ok (.iconst 1, 1) := by decide +kernel
theorem dX6_bringUpToDate_81 : decode cX6_bringUpToDate 81 = .ok (.putfield 44, 3) := by decide +kernel
theorem dX6_bringUpToDate_84 : decode cX6_bringUpToDate 84 = .ok (.return_, 1) := by decide +kernel
theorem dX6_reset_0 : decode cX6_reset 0 = .ok (.iconst 0, 1) := by decide +kernel
theorem dX6_reset_1 : decode cX6_reset 1 = .ok (.istore_n 1, 1) := by decide +kernel
theorem dX6_reset_2 : decode cX6_reset 2 = .ok (.iload_n 1, 1) := by decide +kernel
theorem dX6_reset_3 : decode cX6_reset 3 = .ok (.aload_n 0, 1) := by decide +kernel
theorem dX6_reset_4 : decode cX6_reset 4 = .ok (.getfield 30, 3) := by decide +kernel
theorem dX6_reset_7 : decode cX6_reset 7 = .ok (.arraylength, 1) := by decide +kernel
theorem dX6_reset_8 : decode cX6_reset 8 = .ok (.if_icmp .ge 23, 3) := by decide +kernel
theorem dX6_reset_11 : decode cX6_reset 11 = .ok (.aload_n 0, 1) := by decide +kernel
theorem dX6_reset_12 : decode cX6_reset 12 = .ok (.getfield 30, 3) := by decide +kernel
theorem dX6_reset_15 : decode cX6_reset 15 = .ok (.iload_n 1, 1) := by decide +kernel
theorem dX6_reset_16 : decode cX6_reset 16 = .ok (.iconst (-1), 1) := by decide +kernel
theorem dX6_reset_17 : decode cX6_reset 17 = .ok (.iastore, 1) := by decide +kernel
theorem dX6_reset_18 : decode cX6_reset 18 = .ok (.aload_n 0, 1) := by decide +kernel
theorem dX6_reset_19 : decode cX6_reset 19 = .ok (.getfield 33, 3) := by decide +kernel
theorem dX6_reset_22 : decode cX6_reset 22 = .ok (.iload_n 1, 1) := by decide +kernel
theorem dX6_reset_23 : decode cX6_reset 23 = .ok (.iconst (-1), 1) := by decide +kernel
theorem dX6_reset_24 : decode cX6_reset 24 = .ok (.iastore, 1) := by decide +kernel
theorem dX6_reset_25 : decode cX6_reset 25 = .ok (.iinc 1 1, 3) := by decide +kernel
theorem dX6_reset_28 : decode cX6_reset 28 = .ok (.goto (-26), 3) := by decide +kernel
theorem dX6_reset_31 : decode cX6_reset 31 = .ok (.iconst 0, 1) := by decide +kernel
theorem dX6_reset_32 : decode cX6_reset 32 = .ok (.istore_n 1, 1) := by decide +kernel
theorem dX6_reset_33 : decode cX6_reset 33 = .ok (.iload_n 1, 1) := by decide +kernel
theorem dX6_reset_34 : decode cX6_reset 34 = .ok (.aload_n 0, 1) := by decide +kernel
theorem dX6_reset_35 : decode cX6_reset 35 = .ok (.getfield 27, 3) := by decide +kernel
theorem dX6_reset_38 : decode cX6_reset 38 = .ok (.arraylength, 1) := by decide +kernel
theorem dX6_reset_39 : decode cX6_reset 39 = .ok (.if_icmp .ge 16, 3) := by decide +kernel
theorem dX6_reset_42 : decode cX6_reset 42 = .ok (.aload_n 0, 1) := by decide +kernel
theorem dX6_reset_43 : decode cX6_reset 43 = .ok (.getfield 27, 3) := by decide +kernel
theorem dX6_reset_46 : decode cX6_reset 46 = .ok (.iload_n 1, 1) := by decide +kernel
theorem dX6_reset_47 : decode cX6_reset 47 = .ok (.iconst 0, 1) := by decide +kernel
theorem dX6_reset_48 : decode cX6_reset 48 = .ok (.iastore, 1) := by decide +kernel
theorem dX6_reset_49 : decode cX6_reset 49 = .ok (.iinc 1 1, 3) := by decide +kernel
theorem dX6_reset_52 : decode cX6_reset 52 = .ok (.goto (-19), 3) := by decide +kernel
theorem dX6_reset_55 : decode cX6_reset 55 = .ok (.iconst 0, 1) := by decide +kernel
theorem dX6_reset_56 : decode cX6_reset 56 = .ok (.istore_n 1, 1) := by decide +kernel
theorem dX6_reset_57 : decode cX6_reset 57 = .ok (.iload_n 1, 1) := by decide +kernel
theorem dX6_reset_58 : decode cX6_reset 58 = .ok (.aload_n 0, 1) := by decide +kernel
theorem dX6_reset_59 : decode cX6_reset 59 = .ok (.getfield 40, 3) := by decide +kernel
theorem dX6_reset_62 : decode cX6_reset 62 = .ok (.invokevirtual 77, 3) := by decide +kernel
theorem dX6_reset_65 : decode cX6_reset 65 = .ok (.if_icmp .ge 67, 3) := by decide +kernel
theorem dX6_reset_68 : decode cX6_reset 68 = .ok (.aload_n 0, 1) := by decide +kernel
theorem dX6_reset_69 : decode cX6_reset 69 = .ok (.getfield 40, 3) := by decide +kernel
theorem dX6_reset_72 : decode cX6_reset 72 = .ok (.getfield 78, 3) := by decide +kernel
theorem dX6_reset_75 : decode cX6_reset 75 = .ok (.iload_n 1, 1) := by decide +kernel
theorem dX6_reset_76 : decode cX6_reset 76 = .ok (.invokevirtual 63, 3) := by decide +kernel
theorem dX6_reset_79 : decode cX6_reset 79 = .ok (.checkcast 67, 3) := by decide +kernel
theorem dX6_reset_82 : decode cX6_reset 82 = .ok (.astore_n 2, 1) := by decide +kernel
theorem dX6_reset_83 : decode cX6_reset 83 = .ok (.aload_n 0, 1) := by decide +kernel
theorem dX6_reset_84 : decode cX6_reset 84 = .ok (.getfield 9, 3) := by decide +kernel
theorem dX6_reset_87 : decode cX6_reset 87 = .ok (.iload_n 1, 1) := by decide +kernel
theorem dX6_reset_88 : decode cX6_reset 88 = .ok (.iconst 0, 1) := by decide +kernel
theorem dX6_reset_89 : decode cX6_reset 89 = .ok (.iastore, 1) := by decide +kernel
theorem dX6_reset_90 : decode cX6_reset 90 = .ok (.aload_n 0, 1) := by decide +kernel
theorem dX6_reset_91 : decode cX6_reset 91 = .ok (.getfield 15, 3) := by decide +kernel
theorem dX6_reset_94 : decode cX6_reset 94 = .ok (.iload_n 1, 1) := by decide +kernel
theorem dX6_reset_95 : decode cX6_reset 95 = .ok (.iconst 0, 1) := by decide +kernel
theorem dX6_reset_96 : decode cX6_reset 96 = .ok (.iastore, 1) := by decide +kernel
theorem dX6_reset_97 : decode cX6_reset 97 = .ok (.aload_n 0, 1) := by decide +kernel
theorem dX6_reset_98 : decode cX6_reset 98 = .ok (.getfield 18, 3) := by decide +kernel
theorem dX6_reset_101 : decode cX6_reset 101 = .ok (.iload_n 1, 1) := by decide +kernel
theorem dX6_reset_102 : decode cX6_reset 102 = .ok (.aload_n 2, 1) := by decide +kernel
theorem dX6_reset_103 : decode cX6_reset 103 = .ok (.getfield 81, 3) := by decide +kernel
theorem dX6_reset_106 : decode cX6_reset 106 = .ok (.aload_n 2, 1) := by decide +kernel
theorem dX6_reset_107 : decode cX6_reset 107 = .ok (.getfield 84, 3) := by decide +kernel
theorem dX6_reset_110 : decode cX6_reset 110 = .ok (.iaload, 1) := by decide +kernel
theorem dX6_reset_111 : decode cX6_reset 111 = .ok (.iastore, 1) := by decide +kernel
theorem dX6_reset_112 : decode cX6_reset 112 = .ok (.aload_n 0, 1) := by decide +kernel
theorem dX6_reset_113 : decode cX6_reset 113 = .ok (.getfield 21, 3) := by decide +kernel
theorem dX6_reset_116 : decode cX6_reset 116 = .ok (.iload_n 1, 1) := by decide +kernel
theorem dX6_reset_117 : decode cX6_reset 117 = .ok (.iconst 0, 1) := by decide +kernel
theorem dX6_reset_118 : decode cX6_reset 118 = .ok (.iastore, 1) := by decide +kernel
theorem dX6_reset_119 : decode cX6_reset 119 = .ok (.aload_n 0, 1) := by decide +kernel
theorem dX6_reset_120 : decode cX6_reset 120 = .ok (.getfield 24, 3) := by decide +kernel
theorem dX6_reset_123 : decode cX6_reset 123 = .ok (.iload_n 1, 1) := by decide +kernel
theorem dX6_reset_124 : decode cX6_reset 124 = .ok (.iconst 0, 1) := by decide +kernel
theorem dX6_reset_125 : decode cX6_reset 125 = .ok (.iastore, 1) := by decide +kernel
theorem dX6_reset_126 : decode cX6_reset 126 = .ok (.iinc 1 1, 3) := by decide +kernel
theorem dX6_reset_129 : decode cX6_reset 129 = .ok (.goto (-72), 3) := by decide +kernel
theorem dX6_reset_132 : decode cX6_reset 132 = .ok (.return_, 1) := by decide +kernel
theorem dX6_wantsToLeave_0 : decode cX6_wantsToLeave 0 = .ok (.aload_n 0, 1) := by decide +kernel
theorem dX6_wantsToLeave_1 : decode cX6_wantsToLeave 1 = .ok (.getfield 9, 3) := by decide +kernel
theorem dX6_wantsToLeave_4 : decode cX6_wantsToLeave 4 = .ok (.aload_n 1, 1) := by decide +kernel
theorem dX6_wantsToLeave_5 : decode cX6_wantsToLeave 5 = .ok (.getfield 88, 3) := by decide +kernel
theorem dX6_wantsToLeave_8 : decode cX6_wantsToLeave 8 = .ok (.iaload, 1) := by decide +kernel
theorem dX6_wantsToLeave_9 : decode cX6_wantsToLeave 9 = .ok (.istore_n 3, 1) := by decide +kernel
theorem dX6_wantsToLeave_10 : decode cX6_wantsToLeave 10 = .ok (.aload_n 1, 1) := by decide +kernel
theorem dX6_wantsToLeave_11 : decode cX6_wantsToLeave 11 = .ok (.getfield 91, 3) := by decide +kernel
theorem dX6_wantsToLeave_14 : decode cX6_wantsToLeave 14 = .ok (.ifCond .eq 38, 3) := by decide +kernel
theorem dX6_wantsToLeave_17 : decode cX6_wantsToLeave 17 = .ok (.iload_n 3, 1) := by decide +kernel
theorem dX6_wantsToLeave_18 : decode cX6_wantsToLeave 18 = .ok (.aload_n 1, 1) := by decide +kernel
theorem dX6_wantsToLeave_19 : decode cX6_wantsToLeave 19 = .ok (.invokevirtual 94, 3) := by decide +kernel
theorem dX6_wantsToLeave_22 : decode cX6_wantsToLeave 22 = .ok (.if_icmp .ge 30, 3) := by decide +kernel
theorem dX6_wantsToLeave_25 : decode cX6_wantsToLeave 25 = .ok (.aload_n 0, 1) := by decide +kernel
theorem dX6_wantsToLeave_26 : decode cX6_wantsToLeave 26 = .ok (.getfield 15, 3) := by decide +kernel
theorem dX6_wantsToLeave_29 : decode cX6_wantsToLeave 29 = .ok (.aload_n 1, 1) := by decide +kernel
theorem dX6_wantsToLeave_30 : decode cX6_wantsToLeave 30 = .ok (.getfield 88, 3) := by decide +kernel
theorem dX6_wantsToLeave_33 : decode cX6_wantsToLeave 33 = .ok (.iaload, 1) := by decide +kernel
theorem dX6_wantsToLeave_34 : decode cX6_wantsToLeave 34 = .ok (.iload_n 2, 1) := by decide +kernel
theorem dX6_wantsToLeave_35 : decode cX6_wantsToLeave 35 = .ok (.if_icmp .gt 17, 3) := by decide +kernel
theorem dX6_wantsToLeave_38 : decode cX6_wantsToLeave 38 = .ok (.aload_n 1, 1) := by decide +kernel
theorem dX6_wantsToLeave_39 : decode cX6_wantsToLeave 39 = .ok (.getfield 97, 3) := by decide +kernel
theorem dX6_wantsToLeave_42 : decode cX6_wantsToLeave 42 = .ok (.iload_n 3, 1) := by decide +kernel
theorem dX6_wantsToLeave_43 : decode cX6_wantsToLeave 43 = .ok (.iaload, 1) := by decide +kernel
theorem dX6_wantsToLeave_44 : decode cX6_wantsToLeave 44 = .ok (.iload_n 2, 1) := by decide +kernel
theorem dX6_wantsToLeave_45 : decode cX6_wantsToLeave 45 = .ok (.if_icmp .gt 7, 3) := by decide +kernel
theorem dX6_wantsToLeave_48 : decode cX6_wantsToLeave 48 = .ok (.iconst 1, 1) := by decide +kernel
theorem dX6_wantsToLeave_49 : decode cX6_wantsToLeave 49 = .ok (.goto 4, 3) := by decide +kernel
theorem dX6_wantsToLeave_52 : decode cX6_wantsToLeave 52 = .ok (.iconst 0, 1) := by decide +kernel
theorem dX6_wantsToLeave_53 : decode cX6_wantsToLeave 53 = .ok (.ireturn, 1) := by decide +kernel
theorem dX6_leaveOrPutDown_0 : decode cX6_leaveOrPutDown 0 = .ok (.aload_n 1, 1) := by decide +kernel
theorem dX6_leaveOrPutDown_1 : decode cX6_leaveOrPutDown 1 = .ok (.getfield 88, 3) := by decide +kernel
theorem dX6_leaveOrPutDown_4 : decode cX6_leaveOrPutDown 4 = .ok (.istore_n 3, 1) := by decide +kernel
theorem dX6_leaveOrPutDown_5 : decode cX6_leaveOrPutDown 5 = .ok (.aload_n 1, 1) := by decide +kernel
theorem dX6_leaveOrPutDown_6 : decode cX6_leaveOrPutDown 6 = .ok (.aload_n 0, 1) := by decide +kernel
theorem dX6_leaveOrPutDown_7 : decode cX6_leaveOrPutDown 7 = .ok (.getfield 9, 3) := by decide +kernel
theorem dX6_leaveOrPutDown_10 : decode cX6_leaveOrPutDown 10 = .ok (.iload_n 3, 1) := by decide +kernel
theorem dX6_leaveOrPutDown_11 : decode cX6_leaveOrPutDown 11 = .ok (.iaload, 1) := by decide +kernel
theorem dX6_leaveOrPutDown_12 : decode cX6_leaveOrPutDown 12 = .ok (.invokevirtual 100, 3) := by decide +kernel
theorem dX6_leaveOrPutDown_15 : decode cX6_leaveOrPutDown 15 = .ok (.istore 4, 2) := by decide +kernel
theorem dX6_leaveOrPutDown_17 : decode cX6_leaveOrPutDown 17 = .ok (.iload 4, 2) := by decide +kernel
theorem dX6_leaveOrPutDown_19 : decode cX6_leaveOrPutDown 19 = .ok (.iconst 2, 1) := by decide +kernel
theorem dX6_leaveOrPutDown_20 : decode cX6_leaveOrPutDown 20 = .ok (.imul, 1) := by decide +kernel
theorem dX6_leaveOrPutDown_21 : decode cX6_leaveOrPutDown 21 = .ok (.aload_n 0, 1) := by decide +kernel
theorem dX6_leaveOrPutDown_22 : decode cX6_leaveOrPutDown 22 = .ok (.getfield 36, 3) := by decide +kernel
theorem dX6_leaveOrPutDown_25 : decode cX6_leaveOrPutDown 25 = .ok (.getfield 104, 3) := by decide +kernel
theorem dX6_leaveOrPutDown_28 : decode cX6_leaveOrPutDown 28 = .ok (.iload 4, 2) := by decide +kernel
theorem dX6_leaveOrPutDown_30 : decode cX6_leaveOrPutDown 30 = .ok (.baload, 1) := by decide +kernel
theorem dX6_leaveOrPutDown_31 : decode cX6_leaveOrPutDown 31 = .ok (.ifCond .eq 14, 3) := by decide +kernel
theorem dX6_leaveOrPutDown_34 : decode cX6_leaveOrPutDown 34 = .ok (.aload_n 1, 1) := by decide +kernel
theorem dX6_leaveOrPutDown_35 : decode cX6_leaveOrPutDown 35 = .ok (.invokevirtual 110, 3) := by decide +kernel
theorem dX6_leaveOrPutDown_38 : decode cX6_leaveOrPutDown 38 = .ok (.ifCond .ge 7, 3) := by decide +kernel
theorem dX6_leaveOrPutDown_41 : decode cX6_leaveOrPutDown 41 = .ok (.iconst 1, 1) := by decide +kernel
theorem dX6_leaveOrPutDown_42 : decode cX6_leaveOrPutDown 42 = .ok (.goto 4, 3) := by decide +kernel
theorem dX6_leaveOrPutDown_45 : decode cX6_leaveOrPutDown 45 = .ok (.iconst 0, 1) := by decide +kernel
theorem dX6_leaveOrPutDown_46 : decode cX6_leaveOrPutDown 46 = .ok (.iadd, 1) := by decide +kernel
theorem dX6_leaveOrPutDown_47 : decode cX6_leaveOrPutDown 47 = .ok (.istore 5, 2) := by decide +kernel
theorem dX6_leaveOrPutDown_49 : decode cX6_leaveOrPutDown 49 = .ok (.aload_n 0, 1) := by decide +kernel
theorem dX6_leaveOrPutDown_50 : decode cX6_leaveOrPutDown 50 = .ok (.getfield 18, 3) := by decide +kernel
theorem dX6_leaveOrPutDown_53 : decode cX6_leaveOrPutDown 53 = .ok (.iload_n 3, 1) := by decide +kernel
theorem dX6_leaveOrPutDown_54 : decode cX6_leaveOrPutDown 54 = .ok (.iaload, 1) := by decide +kernel
theorem dX6_leaveOrPutDown_55 : decode cX6_leaveOrPutDown 55 = .ok (.ifCond .le 26, 3) := by decide +kernel
theorem dX6_leaveOrPutDown_58 : decode cX6_leaveOrPutDown 58 = .ok (.aload_n 0, 1) := by decide +kernel
theorem dX6_leaveOrPutDown_59 : decode cX6_leaveOrPutDown 59 = .ok (.getfield 18, 3) := by decide +kernel
theorem dX6_leaveOrPutDown_62 : decode cX6_leaveOrPutDown 62 = .ok (.iload_n 3, 1) := by decide +kernel
theorem dX6_leaveOrPutDown_63 : decode cX6_leaveOrPutDown 63 = .ok (.dup2, 1) := by decide +kernel
theorem dX6_leaveOrPutDown_64 : decode cX6_leaveOrPutDown 64 = .ok (.iaload, 1) := by decide +kernel
theorem dX6_leaveOrPutDown_65 : decode cX6_leaveOrPutDown 65 = .ok (.iconst 1, 1) := by decide +kernel
theorem dX6_leaveOrPutDown_66 : decode cX6_leaveOrPutDown 66 = .ok (.isub, 1) := by decide +kernel
theorem dX6_leaveOrPutDown_67 : decode cX6_leaveOrPutDown 67 = .ok (.iastore, 1) := by decide +kernel
theorem dX6_leaveOrPutDown_68 : decode cX6_leaveOrPutDown 68 = .ok (.aload_n 0, 1) := by decide +kernel
theorem dX6_leaveOrPutDown_69 : decode cX6_leaveOrPutDown 69 = .ok (.getfield 21, 3) := by decide +kernel
theorem dX6_leaveOrPutDown_72 : decode cX6_leaveOrPutDown 72 = .ok (.iload_n 3, 1) := by decide +kernel
theorem dX6_leaveOrPutDown_73 : decode cX6_leaveOrPutDown 73 = .ok (.dup2, 1) := by decide +kernel
theorem dX6_leaveOrPutDown_74 : decode cX6_leaveOrPutDown 74 = .ok (.iaload, 1) := by decide +kernel
theorem dX6_leaveOrPutDown_75 : decode cX6_leaveOrPutDown 75 = .ok (.iconst 1, 1) := by decide +kernel
theorem dX6_leaveOrPutDown_76 : decode cX6_leaveOrPutDown 76 = .ok (.iadd, 1) := by decide +kernel
theorem dX6_leaveOrPutDown_77 : decode cX6_leaveOrPutDown 77 = .ok (.iastore, 1) := by decide +kernel
theorem dX6_leaveOrPutDown_78 : decode cX6_leaveOrPutDown 78 = .ok (.goto 161, 3) := by decide +kernel
theorem dX6_leaveOrPutDown_81 : decode cX6_leaveOrPutDown 81 = .ok (.aload_n 0, 1) := by decide +kernel
theorem dX6_leaveOrPutDown_82 : decode cX6_leaveOrPutDown 82 = .ok (.getfield 36, 3) := by decide +kernel
theorem dX6_leaveOrPutDown_85 : decode cX6_leaveOrPutDown 85 = .ok (.iload 4, 2) := by decide +kernel
theorem dX6_leaveOrPutDown_87 : decode cX6_leaveOrPutDown 87 = .ok (.iload_n 2, 1) := by decide +kernel
theorem dX6_leaveOrPutDown_88 : decode cX6_leaveOrPutDown 88 = .ok (.invokevirtual 113, 3) := by decide +kernel
theorem dX6_leaveOrPutDown_91 : decode cX6_leaveOrPutDown 91 = .ok (.ifCond .eq 16, 3) := by decide +kernel
theorem dX6_leaveOrPutDown_94 : decode cX6_leaveOrPutDown 94 = .ok (.aload_n 0, 1) := by decide +kernel
theorem dX6_leaveOrPutDown_95 : decode cX6_leaveOrPutDown 95 = .ok (.getfield 24, 3) := by decide +kernel
theorem dX6_leaveOrPutDown_98 : decode cX6_leaveOrPutDown 98 = .ok (.iload_n 3, 1) := by decide +kernel
theorem dX6_leaveOrPutDown_99 : decode cX6_leaveOrPutDown 99 = .ok (.dup2, 1) := by decide +kernel
theorem dX6_leaveOrPutDown_100 : decode cX6_leaveOrPutDown 100 = .ok (.iaload, 1) := by decide +kernel
theorem dX6_leaveOrPutDown_101 : decode cX6_leaveOrPutDown 101 = .ok (.iconst 1, 1) := by decide +kernel
theorem dX6_leaveOrPutDown_102 : decode cX6_leaveOrPutDown 102 = .ok (.iadd, 1) := by decide +kernel
theorem dX6_leaveOrPutDown_103 : decode cX6_leaveOrPutDown 103 = .ok (.iastore, 1) := by decide +kernel
theorem dX6_leaveOrPutDown_104 : decode cX6_leaveOrPutDown 104 = .ok (.goto 135, 3) := by decide +kernel
theorem dX6_leaveOrPutDown_107 : decode cX6_leaveOrPutDown 107 = .ok (.aload_n 0, 1) := by decide +kernel
theorem dX6_leaveOrPutDown_108 : decode cX6_leaveOrPutDown 108 = .ok (.getfield 33, 3) := by decide +kernel
theorem dX6_leaveOrPutDown_111 : decode cX6_leaveOrPutDown 111 = .ok (.iload 5, 2) := by decide +kernel
theorem dX6_leaveOrPutDown_113 : decode cX6_leaveOrPutDown 113 = .ok (.iaload, 1) := by decide +kernel
theorem dX6_leaveOrPutDown_114 : decode cX6_leaveOrPutDown 114 = .ok (.iload_n 2, 1) := by decide +kernel
theorem dX6_leaveOrPutDown_115 : decode cX6_leaveOrPutDown 115 = .ok (.if_icmp .lt 38, 3) := by decide +kernel
theorem dX6_leaveOrPutDown_118 : decode cX6_leaveOrPutDown 118 = .ok (.aload_n 0, 1) := by decide +kernel
theorem dX6_leaveOrPutDown_119 : decode cX6_leaveOrPutDown 119 = .ok (.getfield 30, 3) := by decide +kernel
theorem dX6_leaveOrPutDown_122 : decode cX6_leaveOrPutDown 122 = .ok (.iload 5, 2) := by decide +kernel
theorem dX6_leaveOrPutDown_124 : decode cX6_leaveOrPutDown 124 = .ok (.iaload, 1) := by decide +kernel
theorem dX6_leaveOrPutDown_125 : decode cX6_leaveOrPutDown 125 = .ok (.iconst (-1), 1) := by decide +kernel
theorem dX6_leaveOrPutDown_126 : decode cX6_leaveOrPutDown 126 = .ok (.if_icmp .eq 27, 3) := by decide +kernel
theorem dX6_leaveOrPutDown_129 : decode cX6_leaveOrPutDown 129 = .ok (.aload_n 0, 1) := by decide +kernel
theorem dX6_leaveOrPutDown_130 : decode cX6_leaveOrPutDown 130 = .ok (.getfield 27, 3) := by decide +kernel
theorem dX6_leaveOrPutDown_133 : decode cX6_leaveOrPutDown 133 = .ok (.iload_n 3, 1) := by decide +kernel
theorem dX6_leaveOrPutDown_134 : decode cX6_leaveOrPutDown 134 = .ok (.bipush 16, 2) := by decide +kernel
theorem dX6_leaveOrPutDown_136 : decode cX6_leaveOrPutDown 136 = .ok (.imul, 1) := by decide +kernel
theorem dX6_leaveOrPutDown_137 : decode cX6_leaveOrPutDown 137 = .ok (.aload_n 0, 1) := by decide +kernel
theorem dX6_leaveOrPutDown_138 : decode cX6_leaveOrPutDown 138 = .ok (.getfield 30, 3) := by decide +kernel
theorem dX6_leaveOrPutDown_141 : decode cX6_leaveOrPutDown 141 = .ok (.iload 5, 2) := by decide +kernel
theorem dX6_leaveOrPutDown_143 : decode cX6_leaveOrPutDown 143 = .ok (.iaload, 1) := by decide +kernel
theorem dX6_leaveOrPutDown_144 : decode cX6_leaveOrPutDown 144 = .ok (.iadd, 1) := by decide +kernel
theorem dX6_leaveOrPutDown_145 : decode cX6_leaveOrPutDown 145 = .ok (.dup2, 1) := by decide +kernel
theorem dX6_leaveOrPutDown_146 : decode cX6_leaveOrPutDown 146 = .ok (.iaload, 1) := by decide +kernel
theorem dX6_leaveOrPutDown_147 : decode cX6_leaveOrPutDown 147 = .ok (.iconst 1, 1) := by decide +kernel
theorem dX6_leaveOrPutDown_148 : decode cX6_leaveOrPutDown 148 = .ok (.iadd, 1) := by decide +kernel
theorem dX6_leaveOrPutDown_149 : decode cX6_leaveOrPutDown 149 = .ok (.iastore, 1) := by decide +kernel
theorem dX6_leaveOrPutDown_150 : decode cX6_leaveOrPutDown 150 = .ok (.goto 89, 3) := by decide +kernel
theorem dX6_leaveOrPutDown_153 : decode cX6_leaveOrPutDown 153 = .ok (.aload_n 0, 1) := by decide +kernel
theorem dX6_leaveOrPutDown_154 : decode cX6_leaveOrPutDown 154 = .ok (.getfield 36, 3) := by decide +kernel
theorem dX6_leaveOrPutDown_157 : decode cX6_leaveOrPutDown 157 = .ok (.aload_n 1, 1) := by decide +kernel
theorem dX6_leaveOrPutDown_158 : decode cX6_leaveOrPutDown 158 = .ok (.aload_n 0, 1) := by decide +kernel
theorem dX6_leaveOrPutDown_159 : decode cX6_leaveOrPutDown 159 = .ok (.getfield 9, 3) := by decide +kernel
theorem dX6_leaveOrPutDown_162 : decode cX6_leaveOrPutDown 162 = .ok (.iload_n 3, 1) := by decide +kernel
theorem dX6_leaveOrPutDown_163 : decode cX6_leaveOrPutDown 163 = .ok (.iaload, 1) := by decide +kernel
theorem dX6_leaveOrPutDown_164 : decode cX6_leaveOrPutDown 164 = .ok (.invokevirtual 117, 3) := by decide +kernel
theorem dX6_leaveOrPutDown_167 : decode cX6_leaveOrPutDown 167 = .ok (.istore 6, 2) := by decide +kernel
theorem dX6_leaveOrPutDown_169 : decode cX6_leaveOrPutDown 169 = .ok (.aload_n 0, 1) := by decide +kernel
theorem dX6_leaveOrPutDown_170 : decode cX6_leaveOrPutDown 170 = .ok (.getfield 30, 3) := by decide +kernel
theorem dX6_leaveOrPutDown_173 : decode cX6_leaveOrPutDown 173 = .ok (.iload 5, 2) := by decide +kernel
theorem dX6_leaveOrPutDown_175 : decode cX6_leaveOrPutDown 175 = .ok (.iload_n 3, 1) := by decide +kernel
theorem dX6_leaveOrPutDown_176 : decode cX6_leaveOrPutDown 176 = .ok (.iastore, 1) := by decide +kernel
theorem dX6_leaveOrPutDown_177 : decode cX6_leaveOrPutDown 177 = .ok (.aload_n 0, 1) := by decide +kernel
theorem dX6_leaveOrPutDown_178 : decode cX6_leaveOrPutDown 178 = .ok (.getfield 33, 3) := by decide +kernel
theorem dX6_leaveOrPutDown_181 : decode cX6_leaveOrPutDown 181 = .ok (.iload 5, 2) := by decide +kernel
theorem dX6_leaveOrPutDown_183 : decode cX6_leaveOrPutDown 183 = .ok (.iload_n 2, 1) := by decide +kernel
theorem dX6_leaveOrPutDown_184 : decode cX6_leaveOrPutDown 184 = .ok (.iload 6, 2) := by decide +kernel
theorem dX6_leaveOrPutDown_186 : decode cX6_leaveOrPutDown 186 = .ok (.iadd, 1) := by decide +kernel
theorem dX6_leaveOrPutDown_187 : decode cX6_leaveOrPutDown 187 = .ok (.iconst 1, 1) := by decide +kernel
theorem dX6_leaveOrPutDown_188 : decode cX6_leaveOrPutDown 188 = .ok (.isub, 1) := by decide +kernel
theorem dX6_leaveOrPutDown_189 : decode cX6_leaveOrPutDown 189 = .ok (.aload_n 0, 1) := by decide +kernel
theorem dX6_leaveOrPutDown_190 : decode cX6_leaveOrPutDown 190 = .ok (.getfield 36, 3) := by decide +kernel
theorem dX6_leaveOrPutDown_193 : decode cX6_leaveOrPutDown 193 = .ok (.invokevirtual 121, 3) := by decide +kernel
theorem dX6_leaveOrPutDown_196 : decode cX6_leaveOrPutDown 196 = .ok (.iadd, 1) := by decide +kernel
theorem dX6_leaveOrPutDown_197 : decode cX6_leaveOrPutDown 197 = .ok (.iastore, 1) := by decide +kernel
theorem dX6_leaveOrPutDown_198 : decode cX6_leaveOrPutDown 198 = .ok (.aload_n 0, 1) := by decide +kernel
theorem dX6_leaveOrPutDown_199 : decode cX6_leaveOrPutDown 199 = .ok (.getfield 9, 3) := by decide +kernel
theorem dX6_leaveOrPutDown_202 : decode cX6_leaveOrPutDown 202 = .ok (.iload_n 3, 1) := by decide +kernel
theorem dX6_leaveOrPutDown_203 : decode cX6_leaveOrPutDown 203 = .ok (.dup2, 1) := by decide +kernel
theorem dX6_leaveOrPutDown_204 : decode cX6_leaveOrPutDown 204 = .ok (.iaload, 1) := by decide +kernel
theorem dX6_leaveOrPutDown_205 : decode cX6_leaveOrPutDown 205 = .ok (.iconst 1, 1) := by decide +kernel
theorem dX6_leaveOrPutDown_206 : decode cX6_leaveOrPutDown 206 = .ok (.iadd, 1) := by decide +kernel
theorem dX6_leaveOrPutDown_207 : decode cX6_leaveOrPutDown 207 = .ok (.iastore, 1) := by decide +kernel
theorem dX6_leaveOrPutDown_208 : decode cX6_leaveOrPutDown 208 = .ok (.aload_n 0, 1) := by decide +kernel
theorem dX6_leaveOrPutDown_209 : decode cX6_leaveOrPutDown 209 = .ok (.getfield 15, 3) := by decide +kernel
theorem dX6_leaveOrPutDown_212 : decode cX6_leaveOrPutDown 212 = .ok (.iload_n 3, 1) := by decide +kernel
theorem dX6_leaveOrPutDown_213 : decode cX6_leaveOrPutDown 213 = .ok (.iload_n 2, 1) := by decide +kernel
theorem dX6_leaveOrPutDown_214 : decode cX6_leaveOrPutDown 214 = .ok (.iload 6, 2) := by decide +kernel
theorem dX6_leaveOrPutDown_216 : decode cX6_leaveOrPutDown 216 = .ok (.iadd, 1) := by decide +kernel
theorem dX6_leaveOrPutDown_217 : decode cX6_leaveOrPutDown 217 = .ok (.iastore, 1) := by decide +kernel
theorem dX6_leaveOrPutDown_218 : decode cX6_leaveOrPutDown 218 = .ok (.aload_n 0, 1) := by decide +kernel
theorem dX6_leaveOrPutDown_219 : decode cX6_leaveOrPutDown 219 = .ok (.getfield 18, 3) := by decide +kernel
theorem dX6_leaveOrPutDown_222 : decode cX6_leaveOrPutDown 222 = .ok (.iload_n 3, 1) := by decide +kernel
theorem dX6_leaveOrPutDown_223 : decode cX6_leaveOrPutDown 223 = .ok (.aload_n 1, 1) := by decide +kernel
theorem dX6_leaveOrPutDown_224 : decode cX6_leaveOrPutDown 224 = .ok (.getfield 81, 3) := by decide +kernel
theorem dX6_leaveOrPutDown_227 : decode cX6_leaveOrPutDown 227 = .ok (.aload_n 1, 1) := by decide +kernel
theorem dX6_leaveOrPutDown_228 : decode cX6_leaveOrPutDown 228 = .ok (.aload_n 0, 1) := by decide +kernel
theorem dX6_leaveOrPutDown_229 : decode cX6_leaveOrPutDown 229 = .ok (.getfield 9, 3) := by decide +kernel
theorem dX6_leaveOrPutDown_232 : decode cX6_leaveOrPutDown 232 = .ok (.iload_n 3, 1) := by decide +kernel
theorem dX6_leaveOrPutDown_233 : decode cX6_leaveOrPutDown 233 = .ok (.iaload, 1) := by decide +kernel
theorem dX6_leaveOrPutDown_234 : decode cX6_leaveOrPutDown 234 = .ok (.invokevirtual 124, 3) := by decide +kernel
theorem dX6_leaveOrPutDown_237 : decode cX6_leaveOrPutDown 237 = .ok (.iaload, 1) := by decide +kernel
theorem dX6_leaveOrPutDown_238 : decode cX6_leaveOrPutDown 238 = .ok (.iastore, 1) := by decide +kernel
theorem dX6_leaveOrPutDown_239 : decode cX6_leaveOrPutDown 239 = .ok (.return_, 1) := by decide +kernel
theorem dX6_told_0 : decode cX6_told 0 = .ok (.aload_n 1, 1) := by decide +kernel
theorem dX6_told_1 : decode cX6_told 1 = .ok (.getfield 88, 3) := by decide +kernel
theorem dX6_told_4 : decode cX6_told 4 = .ok (.istore_n 3, 1) := by decide +kernel
theorem dX6_told_5 : decode cX6_told 5 = .ok (.aload_n 0, 1) := by decide +kernel
theorem dX6_told_6 : decode cX6_told 6 = .ok (.getfield 15, 3) := by decide +kernel
theorem dX6_told_9 : decode cX6_told 9 = .ok (.iload_n 3, 1) := by decide +kernel
theorem dX6_told_10 : decode cX6_told 10 = .ok (.iaload, 1) := by decide +kernel
theorem dX6_told_11 : decode cX6_told 11 = .ok (.istore 4, 2) := by decide +kernel
theorem dX6_told_13 : decode cX6_told 13 = .ok (.aload_n 0, 1) := by decide +kernel
theorem dX6_told_14 : decode cX6_told 14 = .ok (.getfield 9, 3) := by decide +kernel
theorem dX6_told_17 : decode cX6_told 17 = .ok (.iload_n 3, 1) := by decide +kernel
theorem dX6_told_18 : decode cX6_told 18 = .ok (.iaload, 1) := by decide +kernel
theorem dX6_told_19 : decode cX6_told 19 = .ok (.aload_n 1, 1) := by decide +kernel
theorem dX6_told_20 : decode cX6_told 20 = .ok (.invokevirtual 94, 3) := by decide +kernel
theorem dX6_told_23 : decode cX6_told 23 = .ok (.if_icmp .lt 11, 3) := by decide +kernel
theorem dX6_told_26 : decode cX6_told 26 = .ok (.iload 4, 2) := by decide +kernel
theorem dX6_told_28 : decode cX6_told 28 = .ok (.sipush 480, 3) := by decide +kernel
theorem dX6_told_31 : decode cX6_told 31 = .ok (.if_icmp .lt 5, 3) := by decide +kernel
theorem dX6_told_34 : decode cX6_told 34 = .ok (.iconst (-1), 1) := by decide +kernel
theorem dX6_told_35 : decode cX6_told 35 = .ok (.ireturn, 1) := by decide +kernel
theorem dX6_told_36 : decode cX6_told 36 = .ok (.iload 4, 2) := by decide +kernel
theorem dX6_told_38 : decode cX6_told 38 = .ok (.aload_n 1, 1) := by decide +kernel
theorem dX6_told_39 : decode cX6_told 39 = .ok (.getfield 127, 3) := by decide +kernel
theorem dX6_told_42 : decode cX6_told 42 = .ok (.aload_n 1, 1) := by decide +kernel
theorem dX6_told_43 : decode cX6_told 43 = .ok (.invokevirtual 94, 3) := by decide +kernel
theorem dX6_told_46 : decode cX6_told 46 = .ok (.iaload, 1) := by decide +kernel
theorem dX6_told_47 : decode cX6_told 47 = .ok (.isub, 1) := by decide +kernel
theorem dX6_told_48 : decode cX6_told 48 = .ok (.istore 5, 2) := by decide +kernel
theorem dX6_told_50 : decode cX6_told 50 = .ok (.iload_n 2, 1) := by decide +kernel
theorem dX6_told_51 : decode cX6_told 51 = .ok (.tableswitch 86 0 5 #[37, 40, 43, 50, 57, 63], 37) := by decide +kernel
theorem dX6_told_88 : decode cX6_told 88 = .ok (.iload 4, 2) := by decide +kernel
theorem dX6_told_90 : decode cX6_told 90 = .ok (.ireturn, 1) := by decide +kernel
theorem dX6_told_91 : decode cX6_told 91 = .ok (.iload 5, 2) := by decide +kernel
theorem dX6_told_93 : decode cX6_told 93 = .ok (.ireturn, 1) := by decide +kernel
theorem dX6_told_94 : decode cX6_told 94 = .ok (.aload_n 0, 1) := by decide +kernel
theorem dX6_told_95 : decode cX6_told 95 = .ok (.getfield 21, 3) := by decide +kernel
theorem dX6_told_98 : decode cX6_told 98 = .ok (.iload_n 3, 1) := by decide +kernel
theorem dX6_told_99 : decode cX6_told 99 = .ok (.iaload, 1) := by decide +kernel
theorem dX6_told_100 : decode cX6_told 100 = .ok (.ireturn, 1) := by decide +kernel
theorem dX6_told_101 : decode cX6_told 101 = .ok (.aload_n 0, 1) := by decide +kernel
theorem dX6_told_102 : decode cX6_told 102 = .ok (.getfield 24, 3) := by decide +kernel
theorem dX6_told_105 : decode cX6_told 105 = .ok (.iload_n 3, 1) := by decide +kernel
theorem dX6_told_106 : decode cX6_told 106 = .ok (.iaload, 1) := by decide +kernel
theorem dX6_told_107 : decode cX6_told 107 = .ok (.ireturn, 1) := by decide +kernel
theorem dX6_told_108 : decode cX6_told 108 = .ok (.aload_n 0, 1) := by decide +kernel
theorem dX6_told_109 : decode cX6_told 109 = .ok (.iload_n 3, 1) := by decide +kernel
theorem dX6_told_110 : decode cX6_told 110 = .ok (.invokevirtual 130, 3) := by decide +kernel
theorem dX6_told_113 : decode cX6_told 113 = .ok (.ireturn, 1) := by decide +kernel
theorem dX6_told_114 : decode cX6_told 114 = .ok (.aload_n 0, 1) := by decide +kernel
theorem dX6_told_115 : decode cX6_told 115 = .ok (.getfield 21, 3) := by decide +kernel
theorem dX6_told_118 : decode cX6_told 118 = .ok (.iload_n 3, 1) := by decide +kernel
theorem dX6_told_119 : decode cX6_told 119 = .ok (.iaload, 1) := by decide +kernel
theorem dX6_told_120 : decode cX6_told 120 = .ok (.aload_n 0, 1) := by decide +kernel
theorem dX6_told_121 : decode cX6_told 121 = .ok (.getfield 24, 3) := by decide +kernel
theorem dX6_told_124 : decode cX6_told 124 = .ok (.iload_n 3, 1) := by decide +kernel
theorem dX6_told_125 : decode cX6_told 125 = .ok (.iaload, 1) := by decide +kernel
theorem dX6_told_126 : decode cX6_told 126 = .ok (.iadd, 1) := by decide +kernel
theorem dX6_told_127 : decode cX6_told 127 = .ok (.aload_n 0, 1) := by decide +kernel
theorem dX6_told_128 : decode cX6_told 128 = .ok (.iload_n 3, 1) := by decide +kernel
theorem dX6_told_129 : decode cX6_told 129 = .ok (.invokevirtual 130, 3) := by decide +kernel
theorem dX6_told_132 : decode cX6_told 132 = .ok (.iadd, 1) := by decide +kernel
theorem dX6_told_133 : decode cX6_told 133 = .ok (.iload 5, 2) := by decide +kernel
theorem dX6_told_135 : decode cX6_told 135 = .ok (.isub, 1) := by decide +kernel
theorem dX6_told_136 : decode cX6_told 136 = .ok (.ireturn, 1) := by decide +kernel
theorem dX6_told_137 : decode cX6_told 137 = .ok (.iconst (-1), 1) := by decide +kernel
theorem dX6_told_138 : decode cX6_told 138 = .ok (.ireturn, 1) := by decide +kernel
theorem dX6_toOthers_0 : decode cX6_toOthers 0 = .ok (.iconst 0, 1) := by decide +kernel
theorem dX6_toOthers_1 : decode cX6_toOthers 1 = .ok (.istore_n 2, 1) := by decide +kernel
theorem dX6_toOthers_2 : decode cX6_toOthers 2 = .ok (.iconst 0, 1) := by decide +kernel
theorem dX6_toOthers_3 : decode cX6_toOthers 3 = .ok (.istore_n 3, 1) := by decide +kernel
theorem dX6_toOthers_4 : decode cX6_toOthers 4 = .ok (.iload_n 3, 1) := by decide +kernel
theorem dX6_toOthers_5 : decode cX6_toOthers 5 = .ok (.aload_n 0, 1) := by decide +kernel
theorem dX6_toOthers_6 : decode cX6_toOthers 6 = .ok (.getfield 40, 3) := by decide +kernel
theorem dX6_toOthers_9 : decode cX6_toOthers 9 = .ok (.invokevirtual 77, 3) := by decide +kernel
theorem dX6_toOthers_12 : decode cX6_toOthers 12 = .ok (.if_icmp .ge 23, 3) := by decide +kernel
theorem dX6_toOthers_15 : decode cX6_toOthers 15 = .ok (.iload_n 2, 1) := by decide +kernel
theorem dX6_toOthers_16 : decode cX6_toOthers 16 = .ok (.aload_n 0, 1) := by decide +kernel
theorem dX6_toOthers_17 : decode cX6_toOthers 17 = .ok (.getfield 27, 3) := by decide +kernel
theorem dX6_toOthers_20 : decode cX6_toOthers 20 = .ok (.iload_n 1, 1) := by decide +kernel
theorem dX6_toOthers_21 : decode cX6_toOthers 21 = .ok (.bipush 16, 2) := by decide +kernel
theorem dX6_toOthers_23 : decode cX6_toOthers 23 = .ok (.imul, 1) := by decide +kernel
theorem dX6_toOthers_24 : decode cX6_toOthers 24 = .ok (.iload_n 3, 1) := by decide +kernel
theorem dX6_toOthers_25 : decode cX6_toOthers 25 = .ok (.iadd, 1) := by decide +kernel
theorem dX6_toOthers_26 : decode cX6_toOthers 26 = .ok (.iaload, 1) := by decide +kernel
theorem dX6_toOthers_27 : decode cX6_toOthers 27 = .ok (.iadd, 1) := by decide +kernel
theorem dX6_toOthers_28 : decode cX6_toOthers 28 = .ok (.istore_n 2, 1) := by decide +kernel
theorem dX6_toOthers_29 : decode cX6_toOthers 29 = .ok (.iinc 3 1, 3) := by decide +kernel
theorem dX6_toOthers_32 : decode cX6_toOthers 32 = .ok (.goto (-28), 3) := by decide +kernel
theorem dX6_toOthers_35 : decode cX6_toOthers 35 = .ok (.iload_n 2, 1) := by decide +kernel
theorem dX6_toOthers_36 : decode cX6_toOthers 36 = .ok (.ireturn, 1) := by decide +kernel
theorem dX6_coinsOf_0 : decode cX6_coinsOf 0 = .ok (.iconst 0, 1) := by decide +kernel
theorem dX6_coinsOf_1 : decode cX6_coinsOf 1 = .ok (.istore_n 2, 1) := by decide +kernel
theorem dX6_coinsOf_2 : decode cX6_coinsOf 2 = .ok (.iconst 0, 1) := by decide +kernel
theorem dX6_coinsOf_3 : decode cX6_coinsOf 3 = .ok (.istore_n 3, 1) := by decide +kernel
theorem dX6_coinsOf_4 : decode cX6_coinsOf 4 = .ok (.iload_n 3, 1) := by decide +kernel
theorem dX6_coinsOf_5 : decode cX6_coinsOf 5 = .ok (.aload_n 0, 1) := by decide +kernel
theorem dX6_coinsOf_6 : decode cX6_coinsOf 6 = .ok (.getfield 40, 3) := by decide +kernel
theorem dX6_coinsOf_9 : decode cX6_coinsOf 9 = .ok (.invokevirtual 77, 3) := by decide +kernel
theorem dX6_coinsOf_12 : decode cX6_coinsOf 12 = .ok (.if_icmp .ge 105, 3) := by decide +kernel
theorem dX6_coinsOf_15 : decode cX6_coinsOf 15 = .ok (.iconst 0, 1) := by decide +kernel
theorem dX6_coinsOf_16 : decode cX6_coinsOf 16 = .ok (.istore 4, 2) := by decide +kernel
theorem dX6_coinsOf_18 : decode cX6_coinsOf 18 = .ok (.iload 4, 2) := by decide +kernel
theorem dX6_coinsOf_20 : decode cX6_coinsOf 20 = .ok (.aload_n 0, 1) := by decide +kernel
theorem dX6_coinsOf_21 : decode cX6_coinsOf 21 = .ok (.getfield 40, 3) := by decide +kernel
theorem dX6_coinsOf_24 : decode cX6_coinsOf 24 = .ok (.invokevirtual 77, 3) := by decide +kernel
theorem dX6_coinsOf_27 : decode cX6_coinsOf 27 = .ok (.if_icmp .ge 84, 3) := by decide +kernel
theorem dX6_coinsOf_30 : decode cX6_coinsOf 30 = .ok (.aload_n 0, 1) := by decide +kernel
theorem dX6_coinsOf_31 : decode cX6_coinsOf 31 = .ok (.getfield 27, 3) := by decide +kernel
theorem dX6_coinsOf_34 : decode cX6_coinsOf 34 = .ok (.iload_n 3, 1) := by decide +kernel
theorem dX6_coinsOf_35 : decode cX6_coinsOf 35 = .ok (.bipush 16, 2) := by decide +kernel
theorem dX6_coinsOf_37 : decode cX6_coinsOf 37 = .ok (.imul, 1) := by decide +kernel
theorem dX6_coinsOf_38 : decode cX6_coinsOf 38 = .ok (.iload 4, 2) := by decide +kernel
theorem dX6_coinsOf_40 : decode cX6_coinsOf 40 = .ok (.iadd, 1) := by decide +kernel
theorem dX6_coinsOf_41 : decode cX6_coinsOf 41 = .ok (.iaload, 1) := by decide +kernel
theorem dX6_coinsOf_42 : decode cX6_coinsOf 42 = .ok (.istore 5, 2) := by decide +kernel
theorem dX6_coinsOf_44 : decode cX6_coinsOf 44 = .ok (.iload_n 2, 1) := by decide +kernel
theorem dX6_coinsOf_45 : decode cX6_coinsOf 45 = .ok (.aload_n 0, 1) := by decide +kernel
theorem dX6_coinsOf_46 : decode cX6_coinsOf 46 = .ok (.getfield 40, 3) := by decide +kernel
theorem dX6_coinsOf_49 : decode cX6_coinsOf 49 = .ok (.getfield 78, 3) := by decide +kernel
theorem dX6_coinsOf_52 : decode cX6_coinsOf 52 = .ok (.iload_n 3, 1) := by decide +kernel
theorem dX6_coinsOf_53 : decode cX6_coinsOf 53 = .ok (.invokevirtual 63, 3) := by decide +kernel
theorem dX6_coinsOf_56 : decode cX6_coinsOf 56 = .ok (.checkcast 67, 3) := by decide +kernel
theorem dX6_coinsOf_59 : decode cX6_coinsOf 59 = .ok (.getfield 133, 3) := by decide +kernel
theorem dX6_coinsOf_62 : decode cX6_coinsOf 62 = .ok (.iload_n 1, 1) := by decide +kernel
theorem dX6_coinsOf_63 : decode cX6_coinsOf 63 = .ok (.if_icmp .ne 8, 3) := by decide +kernel
theorem dX6_coinsOf_66 : decode cX6_coinsOf 66 = .ok (.iload 5, 2) := by decide +kernel
theorem dX6_coinsOf_68 : decode cX6_coinsOf 68 = .ok (.goto 4, 3) := by decide +kernel
theorem dX6_coinsOf_71 : decode cX6_coinsOf 71 = .ok (.iconst 0, 1) := by decide +kernel
theorem dX6_coinsOf_72 : decode cX6_coinsOf 72 = .ok (.iadd, 1) := by decide +kernel
theorem dX6_coinsOf_73 : decode cX6_coinsOf 73 = .ok (.istore_n 2, 1) := by decide +kernel
theorem dX6_coinsOf_74 : decode cX6_coinsOf 74 = .ok (.iload_n 2, 1) := by decide +kernel
theorem dX6_coinsOf_75 : decode cX6_coinsOf 75 = .ok (.aload_n 0, 1) := by decide +kernel
theorem dX6_coinsOf_76 : decode cX6_coinsOf 76 = .ok (.getfield 40, 3) := by decide +kernel
theorem dX6_coinsOf_79 : decode cX6_coinsOf 79 = .ok (.getfield 78, 3) := by decide +kernel
theorem dX6_coinsOf_82 : decode cX6_coinsOf 82 = .ok (.iload 4, 2) := by decide +kernel
theorem dX6_coinsOf_84 : decode cX6_coinsOf 84 = .ok (.invokevirtual 63, 3) := by decide +kernel
theorem dX6_coinsOf_87 : decode cX6_coinsOf 87 = .ok (.checkcast 67, 3) := by decide +kernel
theorem dX6_coinsOf_90 : decode cX6_coinsOf 90 = .ok (.getfield 133, 3) := by decide +kernel
theorem dX6_coinsOf_93 : decode cX6_coinsOf 93 = .ok (.iload_n 1, 1) := by decide +kernel
theorem dX6_coinsOf_94 : decode cX6_coinsOf 94 = .ok (.if_icmp .ne 8, 3) := by decide +kernel
theorem dX6_coinsOf_97 : decode cX6_coinsOf 97 = .ok (.iload 5, 2) := by decide +kernel
theorem dX6_coinsOf_99 : decode cX6_coinsOf 99 = .ok (.goto 4, 3) := by decide +kernel
theorem dX6_coinsOf_102 : decode cX6_coinsOf 102 = .ok (.iconst 0, 1) := by decide +kernel
theorem dX6_coinsOf_103 : decode cX6_coinsOf 103 = .ok (.isub, 1) := by decide +kernel
theorem dX6_coinsOf_104 : decode cX6_coinsOf 104 = .ok (.istore_n 2, 1) := by decide +kernel
theorem dX6_coinsOf_105 : decode cX6_coinsOf 105 = .ok (.iinc 4 1, 3) := by decide +kernel
theorem dX6_coinsOf_108 : decode cX6_coinsOf 108 = .ok (.goto (-90), 3) := by decide +kernel
theorem dX6_coinsOf_111 : decode cX6_coinsOf 111 = .ok (.iinc 3 1, 3) := by decide +kernel
theorem dX6_coinsOf_114 : decode cX6_coinsOf 114 = .ok (.goto (-110), 3) := by decide +kernel
theorem dX6_coinsOf_117 : decode cX6_coinsOf 117 = .ok (.iload_n 2, 1) := by decide +kernel
theorem dX6_coinsOf_118 : decode cX6_coinsOf 118 = .ok (.ireturn, 1) := by decide +kernel
theorem dX7_init_0 : decode cX7_init 0 = .ok (.aload_n 0, 1) := by decide +kernel
theorem dX7_init_1 : decode cX7_init 1 = .ok (.invokespecial 1, 3) := by decide +kernel
theorem dX7_init_4 : decode cX7_init 4 = .ok (.new 7, 3) := by decide +kernel
theorem dX7_init_7 : decode cX7_init 7 = .ok (.dup, 1) := by decide +kernel
theorem dX7_init_8 : decode cX7_init 8 = .ok (.iconst 2, 1) := by decide +kernel
theorem dX7_init_9 : decode cX7_init 9 = .ok (.bipush 8, 2) := by decide +kernel
theorem dX7_init_11 : decode cX7_init 11 = .ok (.iload_n 1, 1) := by decide +kernel
theorem dX7_init_12 : decode cX7_init 12 = .ok (.invokestatic 11, 3) := by decide +kernel
theorem dX7_init_15 : decode cX7_init 15 = .ok (.invokestatic 17, 3) := by decide +kernel
theorem dX7_init_18 : decode cX7_init 18 = .ok (.invokespecial 20, 3) := by decide +kernel
theorem dX7_init_21 : decode cX7_init 21 = .ok (.astore_n 2, 1) := by decide +kernel
theorem dX7_init_22 : decode cX7_init 22 = .ok (.new 23, 3) := by decide +kernel
theorem dX7_init_25 : decode cX7_init 25 = .ok (.dup, 1) := by decide +kernel
theorem dX7_init_26 : decode cX7_init 26 = .ok (.invokespecial 25, 3) := by decide +kernel
theorem dX7_init_29 : decode cX7_init 29 = .ok (.astore_n 3, 1) := by decide +kernel
theorem dX7_init_30 : decode cX7_init 30 = .ok (.new 26, 3) := by decide +kernel
theorem dX7_init_33 : decode cX7_init 33 = .ok (.dup, 1) := by decide +kernel
theorem dX7_init_34 : decode cX7_init 34 = .ok (.aload_n 2, 1) := by decide +kernel
theorem dX7_init_35 : decode cX7_init 35 = .ok (.aload_n 3, 1) := by decide +kernel
theorem dX7_init_36 : decode cX7_init 36 = .ok (.invokespecial 28, 3) := by decide +kernel
theorem dX7_init_39 : decode cX7_init 39 = .ok (.astore 4, 2) := by decide +kernel
theorem dX7_init_41 : decode cX7_init 41 = .ok (.aload_n 0, 1) := by decide +kernel
theorem dX7_init_42 : decode cX7_init 42 = .ok (.aload_n 2, 1) := by decide +kernel
theorem dX7_init_43 : decode cX7_init 43 = .ok (.putfield 31, 3) := by decide +kernel
theorem dX7_init_46 : decode cX7_init 46 = .ok (.aload_n 0, 1) := by decide +kernel
theorem dX7_init_47 : decode cX7_init 47 = .ok (.aload_n 3, 1) := by decide +kernel
theorem dX7_init_48 : decode cX7_init 48 = .ok (.putfield 35, 3) := by decide +kernel
theorem dX7_init_51 : decode cX7_init 51 = .ok (.aload_n 0, 1) := by decide +kernel
theorem dX7_init_52 : decode cX7_init 52 = .ok (.aload 4, 2) := by decide +kernel
theorem dX7_init_54 : decode cX7_init 54 = .ok (.putfield 39, 3) := by decide +kernel
theorem dX7_init_57 : decode cX7_init 57 = .ok (.aload_n 0, 1) := by decide +kernel
theorem dX7_init_58 : decode cX7_init 58 = .ok (.new 43, 3) := by decide +kernel
theorem dX7_init_61 : decode cX7_init 61 = .ok (.dup, 1) := by decide +kernel
theorem dX7_init_62 : decode cX7_init 62 = .ok (.aload_n 3, 1) := by decide +kernel
theorem dX7_init_63 : decode cX7_init 63 = .ok (.aload 4, 2) := by decide +kernel
theorem dX7_init_65 : decode cX7_init 65 = .ok (.invokespecial 45, 3) := by decide +kernel
theorem dX7_init_68 : decode cX7_init 68 = .ok (.putfield 48, 3) := by decide +kernel
theorem dX7_init_71 : decode cX7_init 71 = .ok (.aload_n 0, 1) := by decide +kernel
theorem dX7_init_72 : decode cX7_init 72 = .ok (.new 52, 3) := by decide +kernel
theorem dX7_init_75 : decode cX7_init 75 = .ok (.dup, 1) := by decide +kernel
theorem dX7_init_76 : decode cX7_init 76 = .ok (.aload_n 2, 1) := by decide +kernel
theorem dX7_init_77 : decode cX7_init 77 = .ok (.aload_n 3, 1) := by decide +kernel
theorem dX7_init_78 : decode cX7_init 78 = .ok (.invokespecial 54, 3) := by decide +kernel
theorem dX7_init_81 : decode cX7_init 81 = .ok (.putfield 55, 3) := by decide +kernel
theorem dX7_init_84 : decode cX7_init 84 = .ok (.aload_n 0, 1) := by decide +kernel
theorem dX7_init_85 : decode cX7_init 85 = .ok (.new 59, 3) := by decide +kernel
theorem dX7_init_88 : decode cX7_init 88 = .ok (.dup, 1) := by decide +kernel
theorem dX7_init_89 : decode cX7_init 89 = .ok (.aload_n 2, 1) := by decide +kernel
theorem dX7_init_90 : decode cX7_init 90 = .ok (.aload_n 3, 1) := by decide +kernel
theorem dX7_init_91 : decode cX7_init 91 = .ok (.invokespecial 61, 3) := by decide +kernel
theorem dX7_init_94 : decode cX7_init 94 = .ok (.putfield 62, 3) := by decide +kernel
theorem dX7_init_97 : decode cX7_init 97 = .ok (.return_, 1) := by decide +kernel
theorem dX7_section_0 : decode cX7_section 0 = .ok (.aload_n 0, 1) := by decide +kernel
theorem dX7_section_1 : decode cX7_section 1 = .ok (.getfield 31, 3) := by decide +kernel
theorem dX7_section_4 : decode cX7_section 4 = .ok (.iload_n 1, 1) := by decide +kernel
theorem dX7_section_5 : decode cX7_section 5 = .ok (.invokevirtual 66, 3) := by decide +kernel
theorem dX7_section_8 : decode cX7_section 8 = .ok (.ifCond .eq 24, 3) := by decide +kernel
theorem dX7_section_11 : decode cX7_section 11 = .ok (.iload_n 3, 1) := by decide +kernel
theorem dX7_section_12 : decode cX7_section 12 = .ok (.iconst 1, 1) := by decide +kernel
theorem dX7_section_13 : decode cX7_section 13 = .ok (.bipush 30, 2) := by decide +kernel
theorem dX7_section_15 : decode cX7_section 15 = .ok (.invokestatic 70, 3) := by decide +kernel
theorem dX7_section_18 : decode cX7_section 18 = .ok (.ifCond .eq 14, 3) := by decide +kernel
theorem dX7_section_21 : decode cX7_section 21 = .ok (.iload 4, 2) := by decide +kernel
theorem dX7_section_23 : decode cX7_section 23 = .ok (.iconst 1, 1) := by decide +kernel
theorem dX7_section_24 : decode cX7_section 24 = .ok (.bipush 30, 2) := by decide +kernel
theorem dX7_section_26 : decode cX7_section 26 = .ok (.invokestatic 70, 3) := by decide +kernel
theorem dX7_section_29 : decode cX7_section 29 = .ok (.ifCond .ne 5, 3) := by decide +kernel
theorem dX7_section_32 : decode cX7_section 32 = .ok (.iconst 0, 1) := by decide +kernel
theorem dX7_section_33 : decode cX7_section 33 = .ok (.ireturn, 1) := by decide +kernel
theorem dX7_section_34 : decode cX7_section 34 = .ok (.aload_n 0, 1) := by decide +kernel
theorem dX7_section_35 : decode cX7_section 35 = .ok (.getfield 35, 3) := by decide +kernel
theorem dX7_section_38 : decode cX7_section 38 = .ok (.invokevirtual 74, 3) := by decide +kernel
theorem dX7_section_41 : decode cX7_section 41 = .ok (.ifCond .le 5, 3) := by decide +kernel
theorem dX7_section_44 : decode cX7_section 44 = .ok (.iconst 0, 1) := by decide +kernel
theorem dX7_section_45 : decode cX7_section 45 = .ok (.ireturn, 1) := by decide +kernel
theorem dX7_section_46 : decode cX7_section 46 = .ok (.aload_n 0, 1) := by decide +kernel
theorem dX7_section_47 : decode cX7_section 47 = .ok (.getfield 31, 3) := by decide +kernel
theorem dX7_section_50 : decode cX7_section 50 = .ok (.iload_n 1, 1) := by decide +kernel
theorem dX7_section_51 : decode cX7_section 51 = .ok (.iload_n 2, 1) := by decide +kernel
theorem dX7_section_52 : decode cX7_section 52 = .ok (.iload_n 3, 1) := by decide +kernel
theorem dX7_section_53 : decode cX7_section 53 = .ok (.iload 4, 2) := by decide +kernel
theorem dX7_section_55 : decode cX7_section 55 = .ok (.invokevirtual 78, 3) := by decide +kernel
theorem dX7_section_58 : decode cX7_section 58 = .ok (.aload_n 0, 1) := by decide +kernel
theorem dX7_section_59 : decode cX7_section 59 = .ok (.getfield 62, 3) := by decide +kernel
theorem dX7_section_62 : decode cX7_section 62 = .ok (.invokevirtual 82, 3) := by decide +kernel
theorem dX7_section_65 : decode cX7_section 65 = .ok (.iconst 1, 1) := by decide +kernel
theorem dX7_section_66 : decode cX7_section 66 = .ok (.ireturn, 1) := by decide +kernel
theorem dX7_tracks_0 : decode cX7_tracks 0 = .ok (.aload_n 0, 1) := by decide +kernel
theorem dX7_tracks_1 : decode cX7_tracks 1 = .ok (.getfield 31, 3) := by decide +kernel
theorem dX7_tracks_4 : decode cX7_tracks 4 = .ok (.iload_n 1, 1) := by decide +kernel
theorem dX7_tracks_5 : decode cX7_tracks 5 = .ok (.invokevirtual 85, 3) := by decide +kernel
theorem dX7_tracks_8 : decode cX7_tracks 8 = .ok (.ifCond .eq 13, 3) := by decide +kernel
theorem dX7_tracks_11 : decode cX7_tracks 11 = .ok (.iload_n 2, 1) := by decide +kernel
theorem dX7_tracks_12 : decode cX7_tracks 12 = .ok (.iconst 0, 1) := by decide +kernel
theorem dX7_tracks_13 : decode cX7_tracks 13 = .ok (.bipush 9, 2) := by decide +kernel
theorem dX7_tracks_15 : decode cX7_tracks 15 = .ok (.invokestatic 70, 3) := by decide +kernel
theorem dX7_tracks_18 : decode cX7_tracks 18 = .ok (.ifCond .ne 5, 3) := by decide +kernel
theorem dX7_tracks_21 : decode cX7_tracks 21 = .ok (.iconst 0, 1) := by decide +kernel
theorem dX7_tracks_22 : decode cX7_tracks 22 = .ok (.ireturn, 1) := by decide +kernel
theorem dX7_tracks_23 : decode cX7_tracks 23 = .ok (.aload_n 0, 1) := by decide +kernel
theorem dX7_tracks_24 : decode cX7_tracks 24 = .ok (.getfield 31, 3) := by decide +kernel
theorem dX7_tracks_27 : decode cX7_tracks 27 = .ok (.getfield 88, 3) := by decide +kernel
theorem dX7_tracks_30 : decode cX7_tracks 30 = .ok (.iload_n 1, 1) := by decide +kernel
theorem dX7_tracks_31 : decode cX7_tracks 31 = .ok (.iload_n 2, 1) := by decide +kernel
theorem dX7_tracks_32 : decode cX7_tracks 32 = .ok (.iastore, 1) := by decide +kernel
theorem dX7_tracks_33 : decode cX7_tracks 33 = .ok (.iconst 1, 1) := by decide +kernel
theorem dX7_tracks_34 : decode cX7_tracks 34 = .ok (.ireturn, 1) := by decide +kernel
theorem dX7_headway_0 : decode cX7_headway 0 = .ok (.iload_n 1, 1) := by decide +kernel
theorem dX7_headway_1 : decode cX7_headway 1 = .ok (.iconst 0, 1) := by decide +kernel
theorem dX7_headway_2 : decode cX7_headway 2 = .ok (.bipush 9, 2) := by decide +kernel
theorem dX7_headway_4 : decode cX7_headway 4 = .ok (.invokestatic 70, 3) := by decide +kernel
theorem dX7_headway_7 : decode cX7_headway 7 = .ok (.ifCond .ne 5, 3) := by decide +kernel
theorem dX7_headway_10 : decode cX7_headway 10 = .ok (.iconst 0, 1) := by decide +kernel
theorem dX7_headway_11 : decode cX7_headway 11 = .ok (.ireturn, 1) := by decide +kernel
theorem dX7_headway_12 : decode cX7_headway 12 = .ok (.aload_n 0, 1) := by decide +kernel
theorem dX7_headway_13 : decode cX7_headway 13 = .ok (.getfield 31, 3) := by decide +kernel
theorem dX7_headway_16 : decode cX7_headway 16 = .ok (.iload_n 1, 1) := by decide +kernel
theorem dX7_headway_17 : decode cX7_headway 17 = .ok (.putfield 92, 3) := by decide +kernel
theorem dX7_headway_20 : decode cX7_headway 20 = .ok (.aload_n 0, 1) := by decide +kernel
theorem dX7_headway_21 : decode cX7_headway 21 = .ok (.getfield 62, 3) := by decide +kernel
theorem dX7_headway_24 : decode cX7_headway 24 = .ok (.invokevirtual 82, 3) := by decide +kernel
theorem dX7_headway_27 : decode cX7_headway 27 = .ok (.iconst 1, 1) := by decide +kernel
theorem dX7_headway_28 : decode cX7_headway 28 = .ok (.ireturn, 1) := by decide +kernel
theorem dX7_works_0 : decode cX7_works 0 = .ok (.aload_n 0, 1) := by decide +kernel
theorem dX7_works_1 : decode cX7_works 1 = .ok (.getfield 31, 3) := by decide +kernel
theorem dX7_works_4 : decode cX7_works 4 = .ok (.iload_n 1, 1) := by decide +kernel
theorem dX7_works_5 : decode cX7_works 5 = .ok (.invokevirtual 66, 3) := by decide +kernel
theorem dX7_works_8 : decode cX7_works 8 = .ok (.ifCond .eq 31, 3) := by decide +kernel
theorem dX7_works_11 : decode cX7_works 11 = .ok (.iload_n 2, 1) := by decide +kernel
theorem dX7_works_12 : decode cX7_works 12 = .ok (.ifCond .lt 27, 3) := by decide +kernel
theorem dX7_works_15 : decode cX7_works 15 = .ok (.iload_n 3, 1) := by decide +kernel
theorem dX7_works_16 : decode cX7_works 16 = .ok (.sipush 480, 3) := by decide +kernel
theorem dX7_works_19 : decode cX7_works 19 = .ok (.if_icmp .gt 20, 3) := by decide +kernel
theorem dX7_works_22 : decode cX7_works 22 = .ok (.iload_n 3, 1) := by decide +kernel
theorem dX7_works_23 : decode cX7_works 23 = .ok (.iload_n 2, 1) := by decide +kernel
theorem dX7_works_24 : decode cX7_works 24 = .ok (.if_icmp .le 15, 3) := by decide +kernel
theorem dX7_works_27 : decode cX7_works 27 = .ok (.aload_n 0, 1) := by decide +kernel
theorem dX7_works_28 : decode cX7_works 28 = .ok (.getfield 31, 3) := by decide +kernel
theorem dX7_works_31 : decode cX7_works 31 = .ok (.getfield 96, 3) := by decide +kernel
theorem dX7_works_34 : decode cX7_works 34 = .ok (.bipush 10, 2) := by decide +kernel
theorem dX7_works_36 : decode cX7_works 36 = .ok (.if_icmp .lt 5, 3) := by decide +kernel
theorem dX7_works_39 : decode cX7_works 39 = .ok (.iconst 0, 1) := by decide +kernel
theorem dX7_works_40 : decode cX7_works 40 = .ok (.ireturn, 1) := by decide +kernel
theorem dX7_works_41 : decode cX7_works 41 = .ok (.aload_n 0, 1) := by decide +kernel
theorem dX7_works_42 : decode cX7_works 42 = .ok (.getfield 31, 3) := by decide +kernel
theorem dX7_works_45 : decode cX7_works 45 = .ok (.iload_n 1, 1) := by decide +kernel
theorem dX7_works_46 : decode cX7_works 46 = .ok (.iload_n 2, 1) := by decide +kernel
theorem dX7_works_47 : decode cX7_works 47 = .ok (.iload_n 3, 1) := by decide +kernel
theorem dX7_works_48 : decode cX7_works 48 = .ok (.invokevirtual 99, 3) := by decide +kernel
theorem dX7_works_51 : decode cX7_works 51 = .ok (.aload_n 0, 1) := by decide +kernel
theorem dX7_works_52 : decode cX7_works 52 = .ok (.getfield 62, 3) := by decide +kernel
theorem dX7_works_55 : decode cX7_works 55 = .ok (.invokevirtual 82, 3) := by decide +kernel
theorem dX7_works_58 : decode cX7_works 58 = .ok (.iconst 1, 1) := by decide +kernel
theorem dX7_works_59 : decode cX7_works 59 = .ok (.ireturn, 1) := by decide +kernel
theorem dX7_bid_0 : decode cX7_bid 0 = .ok (.aload_n 0, 1) := by decide +kernel
theorem dX7_bid_1 : decode cX7_bid 1 = .ok (.getfield 35, 3) := by decide +kernel
theorem dX7_bid_4 : decode cX7_bid 4 = .ok (.invokevirtual 103, 3) := by decide +kernel
theorem dX7_bid_7 : decode cX7_bid 7 = .ok (.bipush 16, 2) := by decide +kernel
theorem dX7_bid_9 : decode cX7_bid 9 = .ok (.if_icmp .ge 25, 3) := by decide +kernel
theorem dX7_bid_12 : decode cX7_bid 12 = .ok (.iload_n 3, 1) := by decide +kernel
theorem dX7_bid_13 : decode cX7_bid 13 = .ok (.iconst 0, 1) := by decide +kernel
theorem dX7_bid_14 : decode cX7_bid 14 = .ok (.sipush 1000, 3) := by decide +kernel
theorem dX7_bid_17 : decode cX7_bid 17 = .ok (.invokestatic 70, 3) := by decide +kernel
theorem dX7_bid_20 : decode cX7_bid 20 = .ok (.ifCond .eq 14, 3) := by decide +kernel
theorem dX7_bid_23 : decode cX7_bid 23 = .ok (.iload 4, 2) := by decide +kernel
theorem dX7_bid_25 : decode cX7_bid 25 = .ok (.iconst 0, 1) := by decide +kernel
theorem dX7_bid_26 : decode cX7_bid 26 = .ok (.bipush 99, 2) := by decide +kernel
theorem dX7_bid_28 : decode cX7_bid 28 = .ok (.invokestatic 70, 3) := by decide +kernel
theorem dX7_bid_31 : decode cX7_bid 31 = .ok (.ifCond .ne 5, 3) := by decide +kernel
theorem dX7_bid_34 : decode cX7_bid 34 = .ok (.iconst (-1), 1) := by decide +kernel
theorem dX7_bid_35 : decode cX7_bid 35 = .ok (.ireturn, 1) := by decide +kernel
theorem dX7_bid_36 : decode cX7_bid 36 = .ok (.iload_n 1, 1) := by decide +kernel
theorem dX7_bid_37 : decode cX7_bid 37 = .ok (.aload_n 0, 1) := by decide +kernel
theorem dX7_bid_38 : decode cX7_bid 38 = .ok (.getfield 31, 3) := by decide +kernel
theorem dX7_bid_41 : decode cX7_bid 41 = .ok (.getfield 106, 3) := by decide +kernel
theorem dX7_bid_44 : decode cX7_bid 44 = .ok (.invokestatic 109, 3) := by decide +kernel
theorem dX7_bid_47 : decode cX7_bid 47 = .ok (.ifCond .eq 10, 3) := by decide +kernel
theorem dX7_bid_50 : decode cX7_bid 50 = .ok (.iload_n 2, 1) := by decide +kernel
theorem dX7_bid_51 : decode cX7_bid 51 = .ok (.invokestatic 115, 3) := by decide +kernel
theorem dX7_bid_54 : decode cX7_bid 54 = .ok (.ifCond .ne 5, 3) := by decide +kernel
theorem dX7_bid_57 : decode cX7_bid 57 = .ok (.iconst (-1), 1) := by decide +kernel
theorem dX7_bid_58 : decode cX7_bid 58 = .ok (.ireturn, 1) := by decide +kernel
theorem dX7_bid_59 : decode cX7_bid 59 = .ok (.new 110, 3) := by decide +kernel
theorem dX7_bid_62 : decode cX7_bid 62 = .ok (.dup, 1) := by decide +kernel
theorem dX7_bid_63 : decode cX7_bid 63 = .ok (.aload_n 0, 1) := by decide +kernel
theorem dX7_bid_64 : decode cX7_bid 64 = .ok (.getfield 35, 3) := by decide +kernel
theorem dX7_bid_67 : decode cX7_bid 67 = .ok (.invokevirtual 103, 3) := by decide +kernel
theorem dX7_bid_70 : decode cX7_bid 70 = .ok (.iload_n 1, 1) := by decide +kernel
theorem dX7_bid_71 : decode cX7_bid 71 = .ok (.iload_n 2, 1) := by decide +kernel
theorem dX7_bid_72 : decode cX7_bid 72 = .ok (.iload_n 3, 1) := by decide +kernel
theorem dX7_bid_73 : decode cX7_bid 73 = .ok (.iload 4, 2) := by decide +kernel
theorem dX7_bid_75 : decode cX7_bid 75 = .ok (.invokespecial 118, 3) := by decide +kernel
theorem dX7_bid_78 : decode cX7_bid 78 = .ok (.astore 5, 2) := by decide +kernel
theorem dX7_bid_80 : decode cX7_bid 80 = .ok (.aload_n 0, 1) := by decide +kernel
theorem dX7_bid_81 : decode cX7_bid 81 = .ok (.getfield 35, 3) := by decide +kernel
theorem dX7_bid_84 : decode cX7_bid 84 = .ok (.aload 5, 2) := by decide +kernel
theorem dX7_bid_86 : decode cX7_bid 86 = .ok (.invokevirtual 121, 3) := by decide +kernel
theorem dX7_bid_89 : decode cX7_bid 89 = .ok (.aload_n 0, 1) := by decide +kernel
theorem dX7_bid_90 : decode cX7_bid 90 = .ok (.getfield 62, 3) := by decide +kernel
theorem dX7_bid_93 : decode cX7_bid 93 = .ok (.invokevirtual 82, 3) := by decide +kernel
theorem dX7_bid_96 : decode cX7_bid 96 = .ok (.aload 5, 2) := by decide +kernel
theorem dX7_bid_98 : decode cX7_bid 98 = .ok (.getfield 125, 3) := by decide +kernel
theorem dX7_bid_101 : decode cX7_bid 101 = .ok (.ireturn, 1) := by decide +kernel
theorem dX7_link_0 : decode cX7_link 0 = .ok (.aload_n 0, 1) := by decide +kernel
theorem dX7_link_1 : decode cX7_link 1 = .ok (.getfield 35, 3) := by decide +kernel
theorem dX7_link_4 : decode cX7_link 4 = .ok (.iload_n 1, 1) := by decide +kernel
theorem dX7_link_5 : decode cX7_link 5 = .ok (.invokevirtual 128, 3) := by decide +kernel
theorem dX7_link_8 : decode cX7_link 8 = .ok (.astore_n 3, 1) := by decide +kernel
theorem dX7_link_9 : decode cX7_link 9 = .ok (.aload_n 0, 1) := by decide +kernel
theorem dX7_link_10 : decode cX7_link 10 = .ok (.getfield 35, 3) := by decide +kernel
theorem dX7_link_13 : decode cX7_link 13 = .ok (.iload_n 2, 1) := by decide +kernel
theorem dX7_link_14 : decode cX7_link 14 = .ok (.invokevirtual 128, 3) := by decide +kernel
theorem dX7_link_17 : decode cX7_link 17 = .ok (.astore 4, 2) := by decide +kernel
theorem dX7_link_19 : decode cX7_link 19 = .ok (.aload_n 3, 1) := by decide +kernel
theorem dX7_link_20 : decode cX7_link 20 = .ok (.ifnull 30, 3) := by decide +kernel
theorem dX7_link_23 : decode cX7_link 23 = .ok (.aload 4, 2) := by decide +kernel
theorem dX7_link_25 : decode cX7_link 25 = .ok (.ifnull 25, 3) := by decide +kernel
theorem dX7_link_28 : decode cX7_link 28 = .ok (.iload_n 1, 1) := by decide +kernel
theorem dX7_link_29 : decode cX7_link 29 = .ok (.iload_n 2, 1) := by decide +kernel
theorem dX7_link_30 : decode cX7_link 30 = .ok (.if_icmp .eq 20, 3) := by decide +kernel
theorem dX7_link_33 : decode cX7_link 33 = .ok (.aload_n 3, 1) := by decide +kernel
theorem dX7_link_34 : decode cX7_link 34 = .ok (.getfield 132, 3) := by decide +kernel
theorem dX7_link_37 : decode cX7_link 37 = .ok (.iconst (-1), 1) := by decide +kernel
theorem dX7_link_38 : decode cX7_link 38 = .ok (.if_icmp .ne 12, 3) := by decide +kernel
theorem dX7_link_41 : decode cX7_link 41 = .ok (.aload 4, 2) := by decide +kernel
theorem dX7_link_43 : decode cX7_link 43 = .ok (.getfield 132, 3) := by decide +kernel
theorem dX7_link_46 : decode cX7_link 46 = .ok (.iconst (-1), 1) := by decide +kernel
theorem dX7_link_47 : decode cX7_link 47 = .ok (.if_icmp .eq 5, 3) := by decide +kernel
theorem dX7_link_50 : decode cX7_link 50 = .ok (.iconst 0, 1) := by decide +kernel
theorem dX7_link_51 : decode cX7_link 51 = .ok (.ireturn, 1) := by decide +kernel
theorem dX7_link_52 : decode cX7_link 52 = .ok (.aload_n 3, 1) := by decide +kernel
theorem dX7_link_53 : decode cX7_link 53 = .ok (.iload_n 2, 1) := by decide +kernel
theorem dX7_link_54 : decode cX7_link 54 = .ok (.putfield 132, 3) := by decide +kernel
theorem dX7_link_57 : decode cX7_link 57 = .ok (.aload 4, 2) := by decide +kernel
theorem dX7_link_59 : decode cX7_link 59 = .ok (.iload_n 1, 1) := by decide +kernel
theorem dX7_link_60 : decode cX7_link 60 = .ok (.putfield 132, 3) := by decide +kernel
theorem dX7_link_63 : decode cX7_link 63 = .ok (.iconst 1, 1) := by decide +kernel
theorem dX7_link_64 : decode cX7_link 64 = .ok (.ireturn, 1) := by decide +kernel
theorem dX7_find_0 : decode cX7_find 0 = .ok (.aload_n 0, 1) := by decide +kernel
theorem dX7_find_1 : decode cX7_find 1 = .ok (.getfield 35, 3) := by decide +kernel
theorem dX7_find_4 : decode cX7_find 4 = .ok (.iload_n 1, 1) := by decide +kernel
theorem dX7_find_5 : decode cX7_find 5 = .ok (.invokevirtual 128, 3) := by decide +kernel
end
section
theorem dX7_find_8 : decode cX7_find 8 = .ok (.astore_n 2, 1) := by decide +kernel
theorem dX7_find_9 : decode cX7_find 9 = .ok (.aload_n 2, 1) := by decide +kernel
theorem dX7_find_10 : decode cX7_find 10 = .ok (.ifnonnull 7, 3) := by decide +kernel
theorem dX7_find_13 : decode cX7_find 13 = .ok (.iconst (-1), 1) := by decide +kernel
theorem dX7_find_14 : decode cX7_find 14 = .ok (.goto 11, 3) := by decide +kernel
theorem dX7_find_17 : decode cX7_find 17 = .ok (.aload_n 0, 1) := by decide +kernel
theorem dX7_find_18 : decode cX7_find 18 = .ok (.getfield 39, 3) := by decide +kernel
theorem dX7_find_21 : decode cX7_find 21 = .ok (.aload_n 2, 1) := by decide +kernel
theorem dX7_find_22 : decode cX7_find 22 = .ok (.invokevirtual 135, 3) := by decide +kernel
theorem dX7_find_25 : decode cX7_find 25 = .ok (.ireturn, 1) := by decide +kernel
theorem dX7_give_0 : decode cX7_give 0 = .ok (.aload_n 0, 1) := by decide +kernel
theorem dX7_give_1 : decode cX7_give 1 = .ok (.getfield 35, 3) := by decide +kernel
theorem dX7_give_4 : decode cX7_give 4 = .ok (.iload_n 1, 1) := by decide +kernel
theorem dX7_give_5 : decode cX7_give 5 = .ok (.invokevirtual 128, 3) := by decide +kernel
theorem dX7_give_8 : decode cX7_give 8 = .ok (.astore_n 2, 1) := by decide +kernel
theorem dX7_give_9 : decode cX7_give 9 = .ok (.aload_n 2, 1) := by decide +kernel
theorem dX7_give_10 : decode cX7_give 10 = .ok (.ifnull 15, 3) := by decide +kernel
theorem dX7_give_13 : decode cX7_give 13 = .ok (.aload_n 0, 1) := by decide +kernel
theorem dX7_give_14 : decode cX7_give 14 = .ok (.getfield 39, 3) := by decide +kernel
theorem dX7_give_17 : decode cX7_give 17 = .ok (.aload_n 2, 1) := by decide +kernel
theorem dX7_give_18 : decode cX7_give 18 = .ok (.invokevirtual 135, 3) := by decide +kernel
theorem dX7_give_21 : decode cX7_give 21 = .ok (.iconst (-1), 1) := by decide +kernel
theorem dX7_give_22 : decode cX7_give 22 = .ok (.if_icmp .ne 5, 3) := by decide +kernel
theorem dX7_give_25 : decode cX7_give 25 = .ok (.iconst 0, 1) := by decide +kernel
theorem dX7_give_26 : decode cX7_give 26 = .ok (.ireturn, 1) := by decide +kernel
theorem dX7_give_27 : decode cX7_give 27 = .ok (.aload_n 2, 1) := by decide +kernel
theorem dX7_give_28 : decode cX7_give 28 = .ok (.aload_n 0, 1) := by decide +kernel
theorem dX7_give_29 : decode cX7_give 29 = .ok (.getfield 39, 3) := by decide +kernel
theorem dX7_give_32 : decode cX7_give 32 = .ok (.getfield 139, 3) := by decide +kernel
theorem dX7_give_35 : decode cX7_give 35 = .ok (.aload_n 0, 1) := by decide +kernel
theorem dX7_give_36 : decode cX7_give 36 = .ok (.getfield 39, 3) := by decide +kernel
theorem dX7_give_39 : decode cX7_give 39 = .ok (.getfield 142, 3) := by decide +kernel
theorem dX7_give_42 : decode cX7_give 42 = .ok (.invokevirtual 145, 3) := by decide +kernel
theorem dX7_give_45 : decode cX7_give 45 = .ok (.aload_n 0, 1) := by decide +kernel
theorem dX7_give_46 : decode cX7_give 46 = .ok (.getfield 62, 3) := by decide +kernel
theorem dX7_give_49 : decode cX7_give 49 = .ok (.invokevirtual 82, 3) := by decide +kernel
theorem dX7_give_52 : decode cX7_give 52 = .ok (.iconst 1, 1) := by decide +kernel
theorem dX7_give_53 : decode cX7_give 53 = .ok (.ireturn, 1) := by decide +kernel
theorem dX7_drop_0 : decode cX7_drop 0 = .ok (.aload_n 0, 1) := by decide +kernel
theorem dX7_drop_1 : decode cX7_drop 1 = .ok (.getfield 35, 3) := by decide +kernel
theorem dX7_drop_4 : decode cX7_drop 4 = .ok (.iload_n 1, 1) := by decide +kernel
theorem dX7_drop_5 : decode cX7_drop 5 = .ok (.invokevirtual 128, 3) := by decide +kernel
theorem dX7_drop_8 : decode cX7_drop 8 = .ok (.astore_n 2, 1) := by decide +kernel
theorem dX7_drop_9 : decode cX7_drop 9 = .ok (.aload_n 2, 1) := by decide +kernel
theorem dX7_drop_10 : decode cX7_drop 10 = .ok (.ifnull 10, 3) := by decide +kernel
theorem dX7_drop_13 : decode cX7_drop 13 = .ok (.aload_n 2, 1) := by decide +kernel
theorem dX7_drop_14 : decode cX7_drop 14 = .ok (.getfield 149, 3) := by decide +kernel
theorem dX7_drop_17 : decode cX7_drop 17 = .ok (.ifCond .ne 5, 3) := by decide +kernel
theorem dX7_drop_20 : decode cX7_drop 20 = .ok (.iconst 0, 1) := by decide +kernel
theorem dX7_drop_21 : decode cX7_drop 21 = .ok (.ireturn, 1) := by decide +kernel
theorem dX7_drop_22 : decode cX7_drop 22 = .ok (.aload_n 2, 1) := by decide +kernel
theorem dX7_drop_23 : decode cX7_drop 23 = .ok (.iconst 0, 1) := by decide +kernel
theorem dX7_drop_24 : decode cX7_drop 24 = .ok (.putfield 149, 3) := by decide +kernel
theorem dX7_drop_27 : decode cX7_drop 27 = .ok (.aload_n 0, 1) := by decide +kernel
theorem dX7_drop_28 : decode cX7_drop 28 = .ok (.getfield 62, 3) := by decide +kernel
theorem dX7_drop_31 : decode cX7_drop 31 = .ok (.invokevirtual 82, 3) := by decide +kernel
theorem dX7_drop_34 : decode cX7_drop 34 = .ok (.iconst 1, 1) := by decide +kernel
theorem dX7_drop_35 : decode cX7_drop 35 = .ok (.ireturn, 1) := by decide +kernel
theorem dX7_round_0 : decode cX7_round 0 = .ok (.aload_n 0, 1) := by decide +kernel
theorem dX7_round_1 : decode cX7_round 1 = .ok (.getfield 48, 3) := by decide +kernel
theorem dX7_round_4 : decode cX7_round 4 = .ok (.invokevirtual 153, 3) := by decide +kernel
theorem dX7_round_7 : decode cX7_round 7 = .ok (.aload_n 0, 1) := by decide +kernel
theorem dX7_round_8 : decode cX7_round 8 = .ok (.getfield 62, 3) := by decide +kernel
theorem dX7_round_11 : decode cX7_round 11 = .ok (.invokevirtual 82, 3) := by decide +kernel
theorem dX7_round_14 : decode cX7_round 14 = .ok (.aload_n 0, 1) := by decide +kernel
theorem dX7_round_15 : decode cX7_round 15 = .ok (.getfield 35, 3) := by decide +kernel
theorem dX7_round_18 : decode cX7_round 18 = .ok (.invokevirtual 74, 3) := by decide +kernel
theorem dX7_round_21 : decode cX7_round 21 = .ok (.ireturn, 1) := by decide +kernel
theorem dX7_best_0 : decode cX7_best 0 = .ok (.aload_n 0, 1) := by decide +kernel
theorem dX7_best_1 : decode cX7_best 1 = .ok (.getfield 35, 3) := by decide +kernel
theorem dX7_best_4 : decode cX7_best 4 = .ok (.invokevirtual 103, 3) := by decide +kernel
theorem dX7_best_7 : decode cX7_best 7 = .ok (.iconst 1, 1) := by decide +kernel
theorem dX7_best_8 : decode cX7_best 8 = .ok (.if_icmp .lt 14, 3) := by decide +kernel
theorem dX7_best_11 : decode cX7_best 11 = .ok (.aload_n 0, 1) := by decide +kernel
theorem dX7_best_12 : decode cX7_best 12 = .ok (.getfield 35, 3) := by decide +kernel
theorem dX7_best_15 : decode cX7_best 15 = .ok (.invokevirtual 103, 3) := by decide +kernel
theorem dX7_best_18 : decode cX7_best 18 = .ok (.iconst 5, 1) := by decide +kernel
theorem dX7_best_19 : decode cX7_best 19 = .ok (.if_icmp .le 5, 3) := by decide +kernel
theorem dX7_best_22 : decode cX7_best 22 = .ok (.iconst (-1), 1) := by decide +kernel
theorem dX7_best_23 : decode cX7_best 23 = .ok (.ireturn, 1) := by decide +kernel
theorem dX7_best_24 : decode cX7_best 24 = .ok (.aload_n 0, 1) := by decide +kernel
theorem dX7_best_25 : decode cX7_best 25 = .ok (.getfield 48, 3) := by decide +kernel
theorem dX7_best_28 : decode cX7_best 28 = .ok (.invokevirtual 156, 3) := by decide +kernel
theorem dX7_best_31 : decode cX7_best 31 = .ok (.aload_n 0, 1) := by decide +kernel
theorem dX7_best_32 : decode cX7_best 32 = .ok (.getfield 62, 3) := by decide +kernel
theorem dX7_best_35 : decode cX7_best 35 = .ok (.invokevirtual 82, 3) := by decide +kernel
theorem dX7_best_38 : decode cX7_best 38 = .ok (.aload_n 0, 1) := by decide +kernel
theorem dX7_best_39 : decode cX7_best 39 = .ok (.getfield 35, 3) := by decide +kernel
theorem dX7_best_42 : decode cX7_best 42 = .ok (.invokevirtual 159, 3) := by decide +kernel
theorem dX7_best_45 : decode cX7_best 45 = .ok (.ireturn, 1) := by decide +kernel
theorem dX7_path_0 : decode cX7_path 0 = .ok (.aload_n 0, 1) := by decide +kernel
theorem dX7_path_1 : decode cX7_path 1 = .ok (.getfield 35, 3) := by decide +kernel
theorem dX7_path_4 : decode cX7_path 4 = .ok (.iload_n 1, 1) := by decide +kernel
theorem dX7_path_5 : decode cX7_path 5 = .ok (.invokevirtual 128, 3) := by decide +kernel
theorem dX7_path_8 : decode cX7_path 8 = .ok (.astore_n 3, 1) := by decide +kernel
theorem dX7_path_9 : decode cX7_path 9 = .ok (.aload_n 3, 1) := by decide +kernel
theorem dX7_path_10 : decode cX7_path 10 = .ok (.ifnull 10, 3) := by decide +kernel
theorem dX7_path_13 : decode cX7_path 13 = .ok (.aload_n 3, 1) := by decide +kernel
theorem dX7_path_14 : decode cX7_path 14 = .ok (.getfield 149, 3) := by decide +kernel
theorem dX7_path_17 : decode cX7_path 17 = .ok (.ifCond .ne 5, 3) := by decide +kernel
theorem dX7_path_20 : decode cX7_path 20 = .ok (.iconst (-1), 1) := by decide +kernel
theorem dX7_path_21 : decode cX7_path 21 = .ok (.ireturn, 1) := by decide +kernel
theorem dX7_path_22 : decode cX7_path 22 = .ok (.aload_n 3, 1) := by decide +kernel
theorem dX7_path_23 : decode cX7_path 23 = .ok (.iload_n 2, 1) := by decide +kernel
theorem dX7_path_24 : decode cX7_path 24 = .ok (.invokevirtual 162, 3) := by decide +kernel
theorem dX7_path_27 : decode cX7_path 27 = .ok (.istore 4, 2) := by decide +kernel
theorem dX7_path_29 : decode cX7_path 29 = .ok (.iload 4, 2) := by decide +kernel
theorem dX7_path_31 : decode cX7_path 31 = .ok (.iconst (-1), 1) := by decide +kernel
theorem dX7_path_32 : decode cX7_path 32 = .ok (.if_icmp .ne 5, 3) := by decide +kernel
theorem dX7_path_35 : decode cX7_path 35 = .ok (.iconst (-1), 1) := by decide +kernel
theorem dX7_path_36 : decode cX7_path 36 = .ok (.ireturn, 1) := by decide +kernel
theorem dX7_path_37 : decode cX7_path 37 = .ok (.iload 4, 2) := by decide +kernel
theorem dX7_path_39 : decode cX7_path 39 = .ok (.aload_n 3, 1) := by decide +kernel
theorem dX7_path_40 : decode cX7_path 40 = .ok (.invokevirtual 166, 3) := by decide +kernel
theorem dX7_path_43 : decode cX7_path 43 = .ok (.if_icmp .ne 13, 3) := by decide +kernel
theorem dX7_path_46 : decode cX7_path 46 = .ok (.aload_n 3, 1) := by decide +kernel
theorem dX7_path_47 : decode cX7_path 47 = .ok (.getfield 169, 3) := by decide +kernel
theorem dX7_path_50 : decode cX7_path 50 = .ok (.iload 4, 2) := by decide +kernel
theorem dX7_path_52 : decode cX7_path 52 = .ok (.iaload, 1) := by decide +kernel
theorem dX7_path_53 : decode cX7_path 53 = .ok (.goto 10, 3) := by decide +kernel
theorem dX7_path_56 : decode cX7_path 56 = .ok (.aload_n 3, 1) := by decide +kernel
theorem dX7_path_57 : decode cX7_path 57 = .ok (.getfield 170, 3) := by decide +kernel
theorem dX7_path_60 : decode cX7_path 60 = .ok (.iload 4, 2) := by decide +kernel
theorem dX7_path_62 : decode cX7_path 62 = .ok (.iaload, 1) := by decide +kernel
theorem dX7_path_63 : decode cX7_path 63 = .ok (.ireturn, 1) := by decide +kernel
theorem dX7_why_0 : decode cX7_why 0 = .ok (.iload_n 1, 1) := by decide +kernel
theorem dX7_why_1 : decode cX7_why 1 = .ok (.iconst 0, 1) := by decide +kernel
theorem dX7_why_2 : decode cX7_why 2 = .ok (.iconst 2, 1) := by decide +kernel
theorem dX7_why_3 : decode cX7_why 3 = .ok (.invokestatic 70, 3) := by decide +kernel
theorem dX7_why_6 : decode cX7_why 6 = .ok (.ifCond .eq 13, 3) := by decide +kernel
theorem dX7_why_9 : decode cX7_why 9 = .ok (.aload_n 0, 1) := by decide +kernel
theorem dX7_why_10 : decode cX7_why 10 = .ok (.getfield 55, 3) := by decide +kernel
theorem dX7_why_13 : decode cX7_why 13 = .ok (.invokevirtual 171, 3) := by decide +kernel
theorem dX7_why_16 : decode cX7_why 16 = .ok (.ifCond .ne 5, 3) := by decide +kernel
theorem dX7_why_19 : decode cX7_why 19 = .ok (.iconst (-1), 1) := by decide +kernel
theorem dX7_why_20 : decode cX7_why 20 = .ok (.ireturn, 1) := by decide +kernel
theorem dX7_why_21 : decode cX7_why 21 = .ok (.iload_n 1, 1) := by decide +kernel
theorem dX7_why_22 : decode cX7_why 22 = .ok (.ifCond .ne 11, 3) := by decide +kernel
theorem dX7_why_25 : decode cX7_why 25 = .ok (.aload_n 0, 1) := by decide +kernel
theorem dX7_why_26 : decode cX7_why 26 = .ok (.getfield 55, 3) := by decide +kernel
theorem dX7_why_29 : decode cX7_why 29 = .ok (.getfield 175, 3) := by decide +kernel
theorem dX7_why_32 : decode cX7_why 32 = .ok (.ireturn, 1) := by decide +kernel
theorem dX7_why_33 : decode cX7_why 33 = .ok (.iload_n 1, 1) := by decide +kernel
theorem dX7_why_34 : decode cX7_why 34 = .ok (.iconst 1, 1) := by decide +kernel
theorem dX7_why_35 : decode cX7_why 35 = .ok (.if_icmp .ne 13, 3) := by decide +kernel
theorem dX7_why_38 : decode cX7_why 38 = .ok (.aload_n 0, 1) := by decide +kernel
theorem dX7_why_39 : decode cX7_why 39 = .ok (.getfield 55, 3) := by decide +kernel
theorem dX7_why_42 : decode cX7_why 42 = .ok (.getfield 178, 3) := by decide +kernel
theorem dX7_why_45 : decode cX7_why 45 = .ok (.goto 10, 3) := by decide +kernel
theorem dX7_why_48 : decode cX7_why 48 = .ok (.aload_n 0, 1) := by decide +kernel
theorem dX7_why_49 : decode cX7_why 49 = .ok (.getfield 55, 3) := by decide +kernel
theorem dX7_why_52 : decode cX7_why 52 = .ok (.getfield 181, 3) := by decide +kernel
theorem dX7_why_55 : decode cX7_why 55 = .ok (.ireturn, 1) := by decide +kernel
theorem dX7_delay_0 : decode cX7_delay 0 = .ok (.aload_n 0, 1) := by decide +kernel
theorem dX7_delay_1 : decode cX7_delay 1 = .ok (.getfield 35, 3) := by decide +kernel
theorem dX7_delay_4 : decode cX7_delay 4 = .ok (.iload_n 1, 1) := by decide +kernel
theorem dX7_delay_5 : decode cX7_delay 5 = .ok (.invokevirtual 128, 3) := by decide +kernel
theorem dX7_delay_8 : decode cX7_delay 8 = .ok (.astore 4, 2) := by decide +kernel
theorem dX7_delay_10 : decode cX7_delay 10 = .ok (.aload 4, 2) := by decide +kernel
theorem dX7_delay_12 : decode cX7_delay 12 = .ok (.ifnull 24, 3) := by decide +kernel
theorem dX7_delay_15 : decode cX7_delay 15 = .ok (.aload_n 0, 1) := by decide +kernel
theorem dX7_delay_16 : decode cX7_delay 16 = .ok (.getfield 31, 3) := by decide +kernel
theorem dX7_delay_19 : decode cX7_delay 19 = .ok (.iload_n 2, 1) := by decide +kernel
theorem dX7_delay_20 : decode cX7_delay 20 = .ok (.invokevirtual 85, 3) := by decide +kernel
theorem dX7_delay_23 : decode cX7_delay 23 = .ok (.ifCond .eq 13, 3) := by decide +kernel
theorem dX7_delay_26 : decode cX7_delay 26 = .ok (.iload_n 3, 1) := by decide +kernel
theorem dX7_delay_27 : decode cX7_delay 27 = .ok (.iconst 0, 1) := by decide +kernel
theorem dX7_delay_28 : decode cX7_delay 28 = .ok (.bipush 60, 2) := by decide +kernel
theorem dX7_delay_30 : decode cX7_delay 30 = .ok (.invokestatic 70, 3) := by decide +kernel
theorem dX7_delay_33 : decode cX7_delay 33 = .ok (.ifCond .ne 5, 3) := by decide +kernel
theorem dX7_delay_36 : decode cX7_delay 36 = .ok (.iconst 0, 1) := by decide +kernel
theorem dX7_delay_37 : decode cX7_delay 37 = .ok (.ireturn, 1) := by decide +kernel
theorem dX7_delay_38 : decode cX7_delay 38 = .ok (.aload 4, 2) := by decide +kernel
theorem dX7_delay_40 : decode cX7_delay 40 = .ok (.getfield 184, 3) := by decide +kernel
theorem dX7_delay_43 : decode cX7_delay 43 = .ok (.iload_n 2, 1) := by decide +kernel
theorem dX7_delay_44 : decode cX7_delay 44 = .ok (.iload_n 3, 1) := by decide +kernel
theorem dX7_delay_45 : decode cX7_delay 45 = .ok (.iastore, 1) := by decide +kernel
theorem dX7_delay_46 : decode cX7_delay 46 = .ok (.aload_n 0, 1) := by decide +kernel
theorem dX7_delay_47 : decode cX7_delay 47 = .ok (.getfield 62, 3) := by decide +kernel
theorem dX7_delay_50 : decode cX7_delay 50 = .ok (.invokevirtual 82, 3) := by decide +kernel
theorem dX7_delay_53 : decode cX7_delay 53 = .ok (.iconst 1, 1) := by decide +kernel
theorem dX7_delay_54 : decode cX7_delay 54 = .ok (.ireturn, 1) := by decide +kernel
theorem dX7_ran_0 : decode cX7_ran 0 = .ok (.aload_n 0, 1) := by decide +kernel
theorem dX7_ran_1 : decode cX7_ran 1 = .ok (.getfield 35, 3) := by decide +kernel
theorem dX7_ran_4 : decode cX7_ran 4 = .ok (.iload_n 1, 1) := by decide +kernel
theorem dX7_ran_5 : decode cX7_ran 5 = .ok (.invokevirtual 128, 3) := by decide +kernel
theorem dX7_ran_8 : decode cX7_ran 8 = .ok (.astore_n 3, 1) := by decide +kernel
theorem dX7_ran_9 : decode cX7_ran 9 = .ok (.aload_n 3, 1) := by decide +kernel
theorem dX7_ran_10 : decode cX7_ran 10 = .ok (.ifnull 10, 3) := by decide +kernel
theorem dX7_ran_13 : decode cX7_ran 13 = .ok (.aload_n 3, 1) := by decide +kernel
theorem dX7_ran_14 : decode cX7_ran 14 = .ok (.getfield 149, 3) := by decide +kernel
theorem dX7_ran_17 : decode cX7_ran 17 = .ok (.ifCond .ne 5, 3) := by decide +kernel
theorem dX7_ran_20 : decode cX7_ran 20 = .ok (.iconst (-1), 1) := by decide +kernel
theorem dX7_ran_21 : decode cX7_ran 21 = .ok (.ireturn, 1) := by decide +kernel
theorem dX7_ran_22 : decode cX7_ran 22 = .ok (.aload_n 0, 1) := by decide +kernel
theorem dX7_ran_23 : decode cX7_ran 23 = .ok (.getfield 62, 3) := by decide +kernel
theorem dX7_ran_26 : decode cX7_ran 26 = .ok (.invokevirtual 187, 3) := by decide +kernel
theorem dX7_ran_29 : decode cX7_ran 29 = .ok (.aload_n 0, 1) := by decide +kernel
theorem dX7_ran_30 : decode cX7_ran 30 = .ok (.getfield 62, 3) := by decide +kernel
theorem dX7_ran_33 : decode cX7_ran 33 = .ok (.aload_n 3, 1) := by decide +kernel
theorem dX7_ran_34 : decode cX7_ran 34 = .ok (.iload_n 2, 1) := by decide +kernel
theorem dX7_ran_35 : decode cX7_ran 35 = .ok (.invokevirtual 190, 3) := by decide +kernel
theorem dX7_ran_38 : decode cX7_ran 38 = .ok (.ireturn, 1) := by decide +kernel
theorem dX7_blame_0 : decode cX7_blame 0 = .ok (.aload_n 0, 1) := by decide +kernel
theorem dX7_blame_1 : decode cX7_blame 1 = .ok (.getfield 35, 3) := by decide +kernel
theorem dX7_blame_4 : decode cX7_blame 4 = .ok (.iload_n 1, 1) := by decide +kernel
theorem dX7_blame_5 : decode cX7_blame 5 = .ok (.invokevirtual 128, 3) := by decide +kernel
theorem dX7_blame_8 : decode cX7_blame 8 = .ok (.ifnull 14, 3) := by decide +kernel
theorem dX7_blame_11 : decode cX7_blame 11 = .ok (.aload_n 0, 1) := by decide +kernel
theorem dX7_blame_12 : decode cX7_blame 12 = .ok (.getfield 35, 3) := by decide +kernel
theorem dX7_blame_15 : decode cX7_blame 15 = .ok (.iload_n 2, 1) := by decide +kernel
theorem dX7_blame_16 : decode cX7_blame 16 = .ok (.invokevirtual 128, 3) := by decide +kernel
theorem dX7_blame_19 : decode cX7_blame 19 = .ok (.ifnonnull 5, 3) := by decide +kernel
theorem dX7_blame_22 : decode cX7_blame 22 = .ok (.iconst (-1), 1) := by decide +kernel
theorem dX7_blame_23 : decode cX7_blame 23 = .ok (.ireturn, 1) := by decide +kernel
theorem dX7_blame_24 : decode cX7_blame 24 = .ok (.aload_n 0, 1) := by decide +kernel
theorem dX7_blame_25 : decode cX7_blame 25 = .ok (.getfield 62, 3) := by decide +kernel
theorem dX7_blame_28 : decode cX7_blame 28 = .ok (.invokevirtual 187, 3) := by decide +kernel
theorem dX7_blame_31 : decode cX7_blame 31 = .ok (.aload_n 0, 1) := by decide +kernel
theorem dX7_blame_32 : decode cX7_blame 32 = .ok (.getfield 62, 3) := by decide +kernel
theorem dX7_blame_35 : decode cX7_blame 35 = .ok (.getfield 194, 3) := by decide +kernel
theorem dX7_blame_38 : decode cX7_blame 38 = .ok (.iload_n 1, 1) := by decide +kernel
theorem dX7_blame_39 : decode cX7_blame 39 = .ok (.bipush 16, 2) := by decide +kernel
theorem dX7_blame_41 : decode cX7_blame 41 = .ok (.imul, 1) := by decide +kernel
theorem dX7_blame_42 : decode cX7_blame 42 = .ok (.iload_n 2, 1) := by decide +kernel
theorem dX7_blame_43 : decode cX7_blame 43 = .ok (.iadd, 1) := by decide +kernel
theorem dX7_blame_44 : decode cX7_blame 44 = .ok (.iaload, 1) := by decide +kernel
theorem dX7_blame_45 : decode cX7_blame 45 = .ok (.ireturn, 1) := by decide +kernel
theorem dX7_balance_0 : decode cX7_balance 0 = .ok (.iload_n 1, 1) := by decide +kernel
theorem dX7_balance_1 : decode cX7_balance 1 = .ok (.iconst 0, 1) := by decide +kernel
theorem dX7_balance_2 : decode cX7_balance 2 = .ok (.iconst 5, 1) := by decide +kernel
theorem dX7_balance_3 : decode cX7_balance 3 = .ok (.invokestatic 70, 3) := by decide +kernel
theorem dX7_balance_6 : decode cX7_balance 6 = .ok (.ifCond .ne 5, 3) := by decide +kernel
theorem dX7_balance_9 : decode cX7_balance 9 = .ok (.iconst 0, 1) := by decide +kernel
theorem dX7_balance_10 : decode cX7_balance 10 = .ok (.ireturn, 1) := by decide +kernel
theorem dX7_balance_11 : decode cX7_balance 11 = .ok (.aload_n 0, 1) := by decide +kernel
theorem dX7_balance_12 : decode cX7_balance 12 = .ok (.getfield 62, 3) := by decide +kernel
theorem dX7_balance_15 : decode cX7_balance 15 = .ok (.invokevirtual 187, 3) := by decide +kernel
theorem dX7_balance_18 : decode cX7_balance 18 = .ok (.aload_n 0, 1) := by decide +kernel
theorem dX7_balance_19 : decode cX7_balance 19 = .ok (.getfield 62, 3) := by decide +kernel
theorem dX7_balance_22 : decode cX7_balance 22 = .ok (.iload_n 1, 1) := by decide +kernel
theorem dX7_balance_23 : decode cX7_balance 23 = .ok (.invokevirtual 197, 3) := by decide +kernel
theorem dX7_balance_26 : decode cX7_balance 26 = .ok (.ireturn, 1) := by decide +kernel
theorem dX7_count_0 : decode cX7_count 0 = .ok (.iload_n 1, 1) := by decide +kernel
theorem dX7_count_1 : decode cX7_count 1 = .ok (.tableswitch 87 0 5 #[39, 47, 55, 63, 71, 79], 39) := by decide +kernel
theorem dX7_count_40 : decode cX7_count 40 = .ok (.aload_n 0, 1) := by decide +kernel
theorem dX7_count_41 : decode cX7_count 41 = .ok (.getfield 31, 3) := by decide +kernel
theorem dX7_count_44 : decode cX7_count 44 = .ok (.getfield 106, 3) := by decide +kernel
theorem dX7_count_47 : decode cX7_count 47 = .ok (.ireturn, 1) := by decide +kernel
theorem dX7_count_48 : decode cX7_count 48 = .ok (.aload_n 0, 1) := by decide +kernel
theorem dX7_count_49 : decode cX7_count 49 = .ok (.getfield 35, 3) := by decide +kernel
theorem dX7_count_52 : decode cX7_count 52 = .ok (.invokevirtual 103, 3) := by decide +kernel
theorem dX7_count_55 : decode cX7_count 55 = .ok (.ireturn, 1) := by decide +kernel
theorem dX7_count_56 : decode cX7_count 56 = .ok (.aload_n 0, 1) := by decide +kernel
theorem dX7_count_57 : decode cX7_count 57 = .ok (.getfield 35, 3) := by decide +kernel
theorem dX7_count_60 : decode cX7_count 60 = .ok (.invokevirtual 74, 3) := by decide +kernel
theorem dX7_count_63 : decode cX7_count 63 = .ok (.ireturn, 1) := by decide +kernel
theorem dX7_count_64 : decode cX7_count 64 = .ok (.aload_n 0, 1) := by decide +kernel
theorem dX7_count_65 : decode cX7_count 65 = .ok (.getfield 35, 3) := by decide +kernel
theorem dX7_count_68 : decode cX7_count 68 = .ok (.invokevirtual 159, 3) := by decide +kernel
theorem dX7_count_71 : decode cX7_count 71 = .ok (.ireturn, 1) := by decide +kernel
theorem dX7_count_72 : decode cX7_count 72 = .ok (.aload_n 0, 1) := by decide +kernel
theorem dX7_count_73 : decode cX7_count 73 = .ok (.getfield 31, 3) := by decide +kernel
theorem dX7_count_76 : decode cX7_count 76 = .ok (.getfield 96, 3) := by decide +kernel
theorem dX7_count_79 : decode cX7_count 79 = .ok (.ireturn, 1) := by decide +kernel
theorem dX7_count_80 : decode cX7_count 80 = .ok (.aload_n 0, 1) := by decide +kernel
theorem dX7_count_81 : decode cX7_count 81 = .ok (.getfield 31, 3) := by decide +kernel
theorem dX7_count_84 : decode cX7_count 84 = .ok (.getfield 92, 3) := by decide +kernel
theorem dX7_count_87 : decode cX7_count 87 = .ok (.ireturn, 1) := by decide +kernel
theorem dX7_count_88 : decode cX7_count 88 = .ok (.iconst (-1), 1) := by decide +kernel
theorem dX7_count_89 : decode cX7_count 89 = .ok (.ireturn, 1) := by decide +kernel
theorem dX7_isWithin_0 : decode cX7_isWithin 0 = .ok (.iload_n 0, 1) := by decide +kernel
theorem dX7_isWithin_1 : decode cX7_isWithin 1 = .ok (.iload_n 1, 1) := by decide +kernel
theorem dX7_isWithin_2 : decode cX7_isWithin 2 = .ok (.if_icmp .lt 12, 3) := by decide +kernel
theorem dX7_isWithin_5 : decode cX7_isWithin 5 = .ok (.iload_n 0, 1) := by decide +kernel
theorem dX7_isWithin_6 : decode cX7_isWithin 6 = .ok (.iload_n 2, 1) := by decide +kernel
theorem dX7_isWithin_7 : decode cX7_isWithin 7 = .ok (.if_icmp .gt 7, 3) := by decide +kernel
theorem dX7_isWithin_10 : decode cX7_isWithin 10 = .ok (.iconst 1, 1) := by decide +kernel
theorem dX7_isWithin_11 : decode cX7_isWithin 11 = .ok (.goto 4, 3) := by decide +kernel
theorem dX7_isWithin_14 : decode cX7_isWithin 14 = .ok (.iconst 0, 1) := by decide +kernel
theorem dX7_isWithin_15 : decode cX7_isWithin 15 = .ok (.ireturn, 1) := by decide +kernel
theorem dX8_init_0 : decode cX8_init 0 = .ok (.aload_n 0, 1) := by decide +kernel
theorem dX8_init_1 : decode cX8_init 1 = .ok (.invokespecial 1, 3) := by decide +kernel
theorem dX8_init_4 : decode cX8_init 4 = .ok (.aload_n 0, 1) := by decide +kernel
theorem dX8_init_5 : decode cX8_init 5 = .ok (.bipush 8, 2) := by decide +kernel
theorem dX8_init_7 : decode cX8_init 7 = .ok (.newarray .boolean, 2) := by decide +kernel
theorem dX8_init_9 : decode cX8_init 9 = .ok (.putfield 9, 3) := by decide +kernel
theorem dX8_init_12 : decode cX8_init 12 = .ok (.aload_n 0, 1) := by decide +kernel
theorem dX8_init_13 : decode cX8_init 13 = .ok (.bipush 16, 2) := by decide +kernel
theorem dX8_init_15 : decode cX8_init 15 = .ok (.newarray .int, 2) := by decide +kernel
theorem dX8_init_17 : decode cX8_init 17 = .ok (.putfield 13, 3) := by decide +kernel
theorem dX8_init_20 : decode cX8_init 20 = .ok (.aload_n 0, 1) := by decide +kernel
theorem dX8_init_21 : decode cX8_init 21 = .ok (.bipush 8, 2) := by decide +kernel
theorem dX8_init_23 : decode cX8_init 23 = .ok (.newarray .int, 2) := by decide +kernel
theorem dX8_init_25 : decode cX8_init 25 = .ok (.putfield 17, 3) := by decide +kernel
theorem dX8_init_28 : decode cX8_init 28 = .ok (.aload_n 0, 1) := by decide +kernel
theorem dX8_init_29 : decode cX8_init 29 = .ok (.iconst 1, 1) := by decide +kernel
theorem dX8_init_30 : decode cX8_init 30 = .ok (.putfield 20, 3) := by decide +kernel
theorem dX8_init_33 : decode cX8_init 33 = .ok (.aload_n 0, 1) := by decide +kernel
theorem dX8_init_34 : decode cX8_init 34 = .ok (.bipush 10, 2) := by decide +kernel
theorem dX8_init_36 : decode cX8_init 36 = .ok (.newarray .int, 2) := by decide +kernel
theorem dX8_init_38 : decode cX8_init 38 = .ok (.putfield 24, 3) := by decide +kernel
theorem dX8_init_41 : decode cX8_init 41 = .ok (.aload_n 0, 1) := by decide +kernel
theorem dX8_init_42 : decode cX8_init 42 = .ok (.bipush 10, 2) := by decide +kernel
theorem dX8_init_44 : decode cX8_init 44 = .ok (.newarray .int, 2) := by decide +kernel
theorem dX8_init_46 : decode cX8_init 46 = .ok (.putfield 27, 3) := by decide +kernel
theorem dX8_init_49 : decode cX8_init 49 = .ok (.aload_n 0, 1) := by decide +kernel
theorem dX8_init_50 : decode cX8_init 50 = .ok (.bipush 10, 2) := by decide +kernel
theorem dX8_init_52 : decode cX8_init 52 = .ok (.newarray .int, 2) := by decide +kernel
theorem dX8_init_54 : decode cX8_init 54 = .ok (.putfield 30, 3) := by decide +kernel
theorem dX8_init_57 : decode cX8_init 57 = .ok (.aload_n 0, 1) := by decide +kernel
theorem dX8_init_58 : decode cX8_init 58 = .ok (.bipush 16, 2) := by decide +kernel
theorem dX8_init_60 : decode cX8_init 60 = .ok (.newarray .int, 2) := by decide +kernel
theorem dX8_init_62 : decode cX8_init 62 = .ok (.putfield 33, 3) := by decide +kernel
theorem dX8_init_65 : decode cX8_init 65 = .ok (.aload_n 0, 1) := by decide +kernel
theorem dX8_init_66 : decode cX8_init 66 = .ok (.bipush 16, 2) := by decide +kernel
theorem dX8_init_68 : decode cX8_init 68 = .ok (.newarray .int, 2) := by decide +kernel
theorem dX8_init_70 : decode cX8_init 70 = .ok (.putfield 36, 3) := by decide +kernel
theorem dX8_init_73 : decode cX8_init 73 = .ok (.aload_n 0, 1) := by decide +kernel
theorem dX8_init_74 : decode cX8_init 74 = .ok (.bipush 16, 2) := by decide +kernel
theorem dX8_init_76 : decode cX8_init 76 = .ok (.newarray .int, 2) := by decide +kernel
theorem dX8_init_78 : decode cX8_init 78 = .ok (.putfield 39, 3) := by decide +kernel
theorem dX8_init_81 : decode cX8_init 81 = .ok (.aload_n 0, 1) := by decide +kernel
theorem dX8_init_82 : decode cX8_init 82 = .ok (.bipush 16, 2) := by decide +kernel
theorem dX8_init_84 : decode cX8_init 84 = .ok (.newarray .int, 2) := by decide +kernel
theorem dX8_init_86 : decode cX8_init 86 = .ok (.putfield 42, 3) := by decide +kernel
theorem dX8_init_89 : decode cX8_init 89 = .ok (.aload_n 0, 1) := by decide +kernel
theorem dX8_init_90 : decode cX8_init 90 = .ok (.bipush 16, 2) := by decide +kernel
theorem dX8_init_92 : decode cX8_init 92 = .ok (.newarray .int, 2) := by decide +kernel
theorem dX8_init_94 : decode cX8_init 94 = .ok (.putfield 45, 3) := by decide +kernel
theorem dX8_init_97 : decode cX8_init 97 = .ok (.aload_n 0, 1) := by decide +kernel
theorem dX8_init_98 : decode cX8_init 98 = .ok (.bipush 16, 2) := by decide +kernel
theorem dX8_init_100 : decode cX8_init 100 = .ok (.newarray .int, 2) := by decide +kernel
theorem dX8_init_102 : decode cX8_init 102 = .ok (.putfield 48, 3) := by decide +kernel
theorem dX8_init_105 : decode cX8_init 105 = .ok (.aload_n 0, 1) := by decide +kernel
theorem dX8_init_106 : decode cX8_init 106 = .ok (.bipush 16, 2) := by decide +kernel
theorem dX8_init_108 : decode cX8_init 108 = .ok (.newarray .int, 2) := by decide +kernel
theorem dX8_init_110 : decode cX8_init 110 = .ok (.putfield 51, 3) := by decide +kernel
theorem dX8_init_113 : decode cX8_init 113 = .ok (.aload_n 0, 1) := by decide +kernel
theorem dX8_init_114 : decode cX8_init 114 = .ok (.bipush 16, 2) := by decide +kernel
theorem dX8_init_116 : decode cX8_init 116 = .ok (.newarray .int, 2) := by decide +kernel
theorem dX8_init_118 : decode cX8_init 118 = .ok (.putfield 54, 3) := by decide +kernel
theorem dX8_init_121 : decode cX8_init 121 = .ok (.aload_n 0, 1) := by decide +kernel
theorem dX8_init_122 : decode cX8_init 122 = .ok (.bipush 16, 2) := by decide +kernel
theorem dX8_init_124 : decode cX8_init 124 = .ok (.newarray .int, 2) := by decide +kernel
theorem dX8_init_126 : decode cX8_init 126 = .ok (.putfield 57, 3) := by decide +kernel
theorem dX8_init_129 : decode cX8_init 129 = .ok (.aload_n 0, 1) := by decide +kernel
theorem dX8_init_130 : decode cX8_init 130 = .ok (.bipush 16, 2) := by decide +kernel
theorem dX8_init_132 : decode cX8_init 132 = .ok (.newarray .boolean, 2) := by decide +kernel
theorem dX8_init_134 : decode cX8_init 134 = .ok (.putfield 60, 3) := by decide +kernel
theorem dX8_init_137 : decode cX8_init 137 = .ok (.aload_n 0, 1) := by decide +kernel
theorem dX8_init_138 : decode cX8_init 138 = .ok (.sipush 128, 3) := by decide +kernel
theorem dX8_init_141 : decode cX8_init 141 = .ok (.newarray .int, 2) := by decide +kernel
theorem dX8_init_143 : decode cX8_init 143 = .ok (.putfield 63, 3) := by decide +kernel
theorem dX8_init_146 : decode cX8_init 146 = .ok (.aload_n 0, 1) := by decide +kernel
theorem dX8_init_147 : decode cX8_init 147 = .ok (.sipush 128, 3) := by decide +kernel
theorem dX8_init_150 : decode cX8_init 150 = .ok (.newarray .int, 2) := by decide +kernel
theorem dX8_init_152 : decode cX8_init 152 = .ok (.putfield 66, 3) := by decide +kernel
theorem dX8_init_155 : decode cX8_init 155 = .ok (.aload_n 0, 1) := by decide +kernel
theorem dX8_init_156 : decode cX8_init 156 = .ok (.sipush 1920, 3) := by decide +kernel
theorem dX8_init_159 : decode cX8_init 159 = .ok (.newarray .boolean, 2) := by decide +kernel
theorem dX8_init_161 : decode cX8_init 161 = .ok (.putfield 69, 3) := by decide +kernel
theorem dX8_init_164 : decode cX8_init 164 = .ok (.aload_n 0, 1) := by decide +kernel
theorem dX8_init_165 : decode cX8_init 165 = .ok (.bipush 8, 2) := by decide +kernel
theorem dX8_init_167 : decode cX8_init 167 = .ok (.newarray .int, 2) := by decide +kernel
theorem dX8_init_169 : decode cX8_init 169 = .ok (.putfield 72, 3) := by decide +kernel
theorem dX8_init_172 : decode cX8_init 172 = .ok (.aload_n 0, 1) := by decide +kernel
theorem dX8_init_173 : decode cX8_init 173 = .ok (.bipush 16, 2) := by decide +kernel
theorem dX8_init_175 : decode cX8_init 175 = .ok (.newarray .int, 2) := by decide +kernel
theorem dX8_init_177 : decode cX8_init 177 = .ok (.putfield 75, 3) := by decide +kernel
theorem dX8_init_180 : decode cX8_init 180 = .ok (.aload_n 0, 1) := by decide +kernel
theorem dX8_init_181 : decode cX8_init 181 = .ok (.bipush 16, 2) := by decide +kernel
theorem dX8_init_183 : decode cX8_init 183 = .ok (.newarray .boolean, 2) := by decide +kernel
theorem dX8_init_185 : decode cX8_init 185 = .ok (.putfield 78, 3) := by decide +kernel
theorem dX8_init_188 : decode cX8_init 188 = .ok (.aload_n 0, 1) := by decide +kernel
theorem dX8_init_189 : decode cX8_init 189 = .ok (.bipush 16, 2) := by decide +kernel
theorem dX8_init_191 : decode cX8_init 191 = .ok (.newarray .int, 2) := by decide +kernel
theorem dX8_init_193 : decode cX8_init 193 = .ok (.putfield 81, 3) := by decide +kernel
theorem dX8_init_196 : decode cX8_init 196 = .ok (.aload_n 0, 1) := by decide +kernel
theorem dX8_init_197 : decode cX8_init 197 = .ok (.bipush 16, 2) := by decide +kernel
theorem dX8_init_199 : decode cX8_init 199 = .ok (.newarray .int, 2) := by decide +kernel
theorem dX8_init_201 : decode cX8_init 201 = .ok (.putfield 84, 3) := by decide +kernel
theorem dX8_init_204 : decode cX8_init 204 = .ok (.aload_n 0, 1) := by decide +kernel
theorem dX8_init_205 : decode cX8_init 205 = .ok (.bipush 16, 2) := by decide +kernel
theorem dX8_init_207 : decode cX8_init 207 = .ok (.newarray .int, 2) := by decide +kernel
theorem dX8_init_209 : decode cX8_init 209 = .ok (.putfield 87, 3) := by decide +kernel
theorem dX8_init_212 : decode cX8_init 212 = .ok (.aload_n 0, 1) := by decide +kernel
theorem dX8_init_213 : decode cX8_init 213 = .ok (.sipush 128, 3) := by decide +kernel
theorem dX8_init_216 : decode cX8_init 216 = .ok (.newarray .int, 2) := by decide +kernel
theorem dX8_init_218 : decode cX8_init 218 = .ok (.putfield 90, 3) := by decide +kernel
theorem dX8_init_221 : decode cX8_init 221 = .ok (.aload_n 0, 1) := by decide +kernel
theorem dX8_init_222 : decode cX8_init 222 = .ok (.sipush 128, 3) := by decide +kernel
theorem dX8_init_225 : decode cX8_init 225 = .ok (.newarray .int, 2) := by decide +kernel
theorem dX8_init_227 : decode cX8_init 227 = .ok (.putfield 93, 3) := by decide +kernel
theorem dX8_init_230 : decode cX8_init 230 = .ok (.aload_n 0, 1) := by decide +kernel
theorem dX8_init_231 : decode cX8_init 231 = .ok (.bipush 16, 2) := by decide +kernel
theorem dX8_init_233 : decode cX8_init 233 = .ok (.newarray .int, 2) := by decide +kernel
theorem dX8_init_235 : decode cX8_init 235 = .ok (.putfield 96, 3) := by decide +kernel
theorem dX8_init_238 : decode cX8_init 238 = .ok (.aload_n 0, 1) := by decide +kernel
theorem dX8_init_239 : decode cX8_init 239 = .ok (.bipush 16, 2) := by decide +kernel
theorem dX8_init_241 : decode cX8_init 241 = .ok (.newarray .int, 2) := by decide +kernel
theorem dX8_init_243 : decode cX8_init 243 = .ok (.putfield 99, 3) := by decide +kernel
theorem dX8_init_246 : decode cX8_init 246 = .ok (.aload_n 0, 1) := by decide +kernel
theorem dX8_init_247 : decode cX8_init 247 = .ok (.sipush 256, 3) := by decide +kernel
theorem dX8_init_250 : decode cX8_init 250 = .ok (.newarray .int, 2) := by decide +kernel
theorem dX8_init_252 : decode cX8_init 252 = .ok (.putfield 102, 3) := by decide +kernel
theorem dX8_init_255 : decode cX8_init 255 = .ok (.aload_n 0, 1) := by decide +kernel
theorem dX8_init_256 : decode cX8_init 256 = .ok (.iload_n 1, 1) := by decide +kernel
theorem dX8_init_257 : decode cX8_init 257 = .ok (.iconst 2, 1) := by decide +kernel
theorem dX8_init_258 : decode cX8_init 258 = .ok (.if_icmp .ge 7, 3) := by decide +kernel
theorem dX8_init_261 : decode cX8_init 261 = .ok (.iconst 2, 1) := by decide +kernel
theorem dX8_init_262 : decode cX8_init 262 = .ok (.goto 15, 3) := by decide +kernel
theorem dX8_init_265 : decode cX8_init 265 = .ok (.iload_n 1, 1) := by decide +kernel
theorem dX8_init_266 : decode cX8_init 266 = .ok (.bipush 8, 2) := by decide +kernel
theorem dX8_init_268 : decode cX8_init 268 = .ok (.if_icmp .le 8, 3) := by decide +kernel
theorem dX8_init_271 : decode cX8_init 271 = .ok (.bipush 8, 2) := by decide +kernel
theorem dX8_init_273 : decode cX8_init 273 = .ok (.goto 4, 3) := by decide +kernel
theorem dX8_init_276 : decode cX8_init 276 = .ok (.iload_n 1, 1) := by decide +kernel
theorem dX8_init_277 : decode cX8_init 277 = .ok (.putfield 105, 3) := by decide +kernel
theorem dX8_init_280 : decode cX8_init 280 = .ok (.iconst 0, 1) := by decide +kernel
theorem dX8_init_281 : decode cX8_init 281 = .ok (.istore_n 2, 1) := by decide +kernel
theorem dX8_init_282 : decode cX8_init 282 = .ok (.iload_n 2, 1) := by decide +kernel
theorem dX8_init_283 : decode cX8_init 283 = .ok (.bipush 8, 2) := by decide +kernel
theorem dX8_init_285 : decode cX8_init 285 = .ok (.if_icmp .ge 37, 3) := by decide +kernel
theorem dX8_init_288 : decode cX8_init 288 = .ok (.aload_n 0, 1) := by decide +kernel
theorem dX8_init_289 : decode cX8_init 289 = .ok (.getfield 13, 3) := by decide +kernel
theorem dX8_init_292 : decode cX8_init 292 = .ok (.iconst 2, 1) := by decide +kernel
theorem dX8_init_293 : decode cX8_init 293 = .ok (.iload_n 2, 1) := by decide +kernel
theorem dX8_init_294 : decode cX8_init 294 = .ok (.imul, 1) := by decide +kernel
theorem dX8_init_295 : decode cX8_init 295 = .ok (.iconst 5, 1) := by decide +kernel
theorem dX8_init_296 : decode cX8_init 296 = .ok (.iastore, 1) := by decide +kernel
theorem dX8_init_297 : decode cX8_init 297 = .ok (.aload_n 0, 1) := by decide +kernel
theorem dX8_init_298 : decode cX8_init 298 = .ok (.getfield 13, 3) := by decide +kernel
theorem dX8_init_301 : decode cX8_init 301 = .ok (.iconst 2, 1) := by decide +kernel
theorem dX8_init_302 : decode cX8_init 302 = .ok (.iload_n 2, 1) := by decide +kernel
theorem dX8_init_303 : decode cX8_init 303 = .ok (.imul, 1) := by decide +kernel
theorem dX8_init_304 : decode cX8_init 304 = .ok (.iconst 1, 1) := by decide +kernel
theorem dX8_init_305 : decode cX8_init 305 = .ok (.iadd, 1) := by decide +kernel
theorem dX8_init_306 : decode cX8_init 306 = .ok (.bipush 8, 2) := by decide +kernel
theorem dX8_init_308 : decode cX8_init 308 = .ok (.iastore, 1) := by decide +kernel
theorem dX8_init_309 : decode cX8_init 309 = .ok (.aload_n 0, 1) := by decide +kernel
theorem dX8_init_310 : decode cX8_init 310 = .ok (.getfield 17, 3) := by decide +kernel
theorem dX8_init_313 : decode cX8_init 313 = .ok (.iload_n 2, 1) := by decide +kernel
theorem dX8_init_314 : decode cX8_init 314 = .ok (.iconst 2, 1) := by decide +kernel
theorem dX8_init_315 : decode cX8_init 315 = .ok (.iastore, 1) := by decide +kernel
theorem dX8_init_316 : decode cX8_init 316 = .ok (.iinc 2 1, 3) := by decide +kernel
theorem dX8_init_319 : decode cX8_init 319 = .ok (.goto (-37), 3) := by decide +kernel
theorem dX8_init_322 : decode cX8_init 322 = .ok (.iconst 0, 1) := by decide +kernel
theorem dX8_init_323 : decode cX8_init 323 = .ok (.istore_n 2, 1) := by decide +kernel
theorem dX8_init_324 : decode cX8_init 324 = .ok (.iload_n 2, 1) := by decide +kernel
theorem dX8_init_325 : decode cX8_init 325 = .ok (.bipush 16, 2) := by decide +kernel
theorem dX8_init_327 : decode cX8_init 327 = .ok (.if_icmp .ge 16, 3) := by decide +kernel
theorem dX8_init_330 : decode cX8_init 330 = .ok (.aload_n 0, 1) := by decide +kernel
theorem dX8_init_331 : decode cX8_init 331 = .ok (.getfield 57, 3) := by decide +kernel
theorem dX8_init_334 : decode cX8_init 334 = .ok (.iload_n 2, 1) := by decide +kernel
theorem dX8_init_335 : decode cX8_init 335 = .ok (.iconst (-1), 1) := by decide +kernel
theorem dX8_init_336 : decode cX8_init 336 = .ok (.iastore, 1) := by decide +kernel
theorem dX8_init_337 : decode cX8_init 337 = .ok (.iinc 2 1, 3) := by decide +kernel
theorem dX8_init_340 : decode cX8_init 340 = .ok (.goto (-16), 3) := by decide +kernel
theorem dX8_init_343 : decode cX8_init 343 = .ok (.return_, 1) := by decide +kernel
theorem dX8_in_0 : decode cX8_in 0 = .ok (.iload_n 0, 1) := by decide +kernel
theorem dX8_in_1 : decode cX8_in 1 = .ok (.iload_n 1, 1) := by decide +kernel
theorem dX8_in_2 : decode cX8_in 2 = .ok (.if_icmp .lt 12, 3) := by decide +kernel
theorem dX8_in_5 : decode cX8_in 5 = .ok (.iload_n 0, 1) := by decide +kernel
theorem dX8_in_6 : decode cX8_in 6 = .ok (.iload_n 2, 1) := by decide +kernel
theorem dX8_in_7 : decode cX8_in 7 = .ok (.if_icmp .gt 7, 3) := by decide +kernel
theorem dX8_in_10 : decode cX8_in 10 = .ok (.iconst 1, 1) := by decide +kernel
theorem dX8_in_11 : decode cX8_in 11 = .ok (.goto 4, 3) := by decide +kernel
theorem dX8_in_14 : decode cX8_in 14 = .ok (.iconst 0, 1) := by decide +kernel
theorem dX8_in_15 : decode cX8_in 15 = .ok (.ireturn, 1) := by decide +kernel
theorem dX8_isBid_0 : decode cX8_isBid 0 = .ok (.iload_n 1, 1) := by decide +kernel
theorem dX8_isBid_1 : decode cX8_isBid 1 = .ok (.iconst 0, 1) := by decide +kernel
theorem dX8_isBid_2 : decode cX8_isBid 2 = .ok (.aload_n 0, 1) := by decide +kernel
theorem dX8_isBid_3 : decode cX8_isBid 3 = .ok (.getfield 108, 3) := by decide +kernel
theorem dX8_isBid_6 : decode cX8_isBid 6 = .ok (.iconst 1, 1) := by decide +kernel
theorem dX8_isBid_7 : decode cX8_isBid 7 = .ok (.isub, 1) := by decide +kernel
theorem dX8_isBid_8 : decode cX8_isBid 8 = .ok (.invokestatic 111, 3) := by decide +kernel
theorem dX8_isBid_11 : decode cX8_isBid 11 = .ok (.ireturn, 1) := by decide +kernel
theorem dX8_section_0 : decode cX8_section 0 = .ok (.iconst 0, 1) := by decide +kernel
theorem dX8_section_1 : decode cX8_section 1 = .ok (.istore 5, 2) := by decide +kernel
theorem dX8_section_3 : decode cX8_section 3 = .ok (.iload 5, 2) := by decide +kernel
theorem dX8_section_5 : decode cX8_section 5 = .ok (.aload_n 0, 1) := by decide +kernel
theorem dX8_section_6 : decode cX8_section 6 = .ok (.getfield 108, 3) := by decide +kernel
theorem dX8_section_9 : decode cX8_section 9 = .ok (.if_icmp .ge 21, 3) := by decide +kernel
theorem dX8_section_12 : decode cX8_section 12 = .ok (.aload_n 0, 1) := by decide +kernel
theorem dX8_section_13 : decode cX8_section 13 = .ok (.getfield 60, 3) := by decide +kernel
theorem dX8_section_16 : decode cX8_section 16 = .ok (.iload 5, 2) := by decide +kernel
theorem dX8_section_18 : decode cX8_section 18 = .ok (.baload, 1) := by decide +kernel
theorem dX8_section_19 : decode cX8_section 19 = .ok (.ifCond .eq 5, 3) := by decide +kernel
theorem dX8_section_22 : decode cX8_section 22 = .ok (.iconst 0, 1) := by decide +kernel
theorem dX8_section_23 : decode cX8_section 23 = .ok (.ireturn, 1) := by decide +kernel
theorem dX8_section_24 : decode cX8_section 24 = .ok (.iinc 5 1, 3) := by decide +kernel
theorem dX8_section_27 : decode cX8_section 27 = .ok (.goto (-24), 3) := by decide +kernel
theorem dX8_section_30 : decode cX8_section 30 = .ok (.iload_n 1, 1) := by decide +kernel
theorem dX8_section_31 : decode cX8_section 31 = .ok (.iconst 0, 1) := by decide +kernel
theorem dX8_section_32 : decode cX8_section 32 = .ok (.aload_n 0, 1) := by decide +kernel
theorem dX8_section_33 : decode cX8_section 33 = .ok (.getfield 105, 3) := by decide +kernel
theorem dX8_section_36 : decode cX8_section 36 = .ok (.iconst 2, 1) := by decide +kernel
theorem dX8_section_37 : decode cX8_section 37 = .ok (.isub, 1) := by decide +kernel
theorem dX8_section_38 : decode cX8_section 38 = .ok (.invokestatic 111, 3) := by decide +kernel
theorem dX8_section_41 : decode cX8_section 41 = .ok (.ifCond .eq 24, 3) := by decide +kernel
theorem dX8_section_44 : decode cX8_section 44 = .ok (.iload_n 3, 1) := by decide +kernel
theorem dX8_section_45 : decode cX8_section 45 = .ok (.iconst 1, 1) := by decide +kernel
theorem dX8_section_46 : decode cX8_section 46 = .ok (.bipush 30, 2) := by decide +kernel
theorem dX8_section_48 : decode cX8_section 48 = .ok (.invokestatic 111, 3) := by decide +kernel
theorem dX8_section_51 : decode cX8_section 51 = .ok (.ifCond .eq 14, 3) := by decide +kernel
theorem dX8_section_54 : decode cX8_section 54 = .ok (.iload 4, 2) := by decide +kernel
theorem dX8_section_56 : decode cX8_section 56 = .ok (.iconst 1, 1) := by decide +kernel
theorem dX8_section_57 : decode cX8_section 57 = .ok (.bipush 30, 2) := by decide +kernel
theorem dX8_section_59 : decode cX8_section 59 = .ok (.invokestatic 111, 3) := by decide +kernel
theorem dX8_section_62 : decode cX8_section 62 = .ok (.ifCond .ne 5, 3) := by decide +kernel
theorem dX8_section_65 : decode cX8_section 65 = .ok (.iconst 0, 1) := by decide +kernel
theorem dX8_section_66 : decode cX8_section 66 = .ok (.ireturn, 1) := by decide +kernel
theorem dX8_section_67 : decode cX8_section 67 = .ok (.aload_n 0, 1) := by decide +kernel
theorem dX8_section_68 : decode cX8_section 68 = .ok (.getfield 9, 3) := by decide +kernel
theorem dX8_section_71 : decode cX8_section 71 = .ok (.iload_n 1, 1) := by decide +kernel
theorem dX8_section_72 : decode cX8_section 72 = .ok (.iload_n 2, 1) := by decide +kernel
theorem dX8_section_73 : decode cX8_section 73 = .ok (.bastore, 1) := by decide +kernel
theorem dX8_section_74 : decode cX8_section 74 = .ok (.aload_n 0, 1) := by decide +kernel
theorem dX8_section_75 : decode cX8_section 75 = .ok (.getfield 13, 3) := by decide +kernel
theorem dX8_section_78 : decode cX8_section 78 = .ok (.iconst 2, 1) := by decide +kernel
theorem dX8_section_79 : decode cX8_section 79 = .ok (.iload_n 1, 1) := by decide +kernel
theorem dX8_section_80 : decode cX8_section 80 = .ok (.imul, 1) := by decide +kernel
theorem dX8_section_81 : decode cX8_section 81 = .ok (.iload_n 3, 1) := by decide +kernel
theorem dX8_section_82 : decode cX8_section 82 = .ok (.iastore, 1) := by decide +kernel
theorem dX8_section_83 : decode cX8_section 83 = .ok (.aload_n 0, 1) := by decide +kernel
theorem dX8_section_84 : decode cX8_section 84 = .ok (.getfield 13, 3) := by decide +kernel
theorem dX8_section_87 : decode cX8_section 87 = .ok (.iconst 2, 1) := by decide +kernel
theorem dX8_section_88 : decode cX8_section 88 = .ok (.iload_n 1, 1) := by decide +kernel
theorem dX8_section_89 : decode cX8_section 89 = .ok (.imul, 1) := by decide +kernel
theorem dX8_section_90 : decode cX8_section 90 = .ok (.iconst 1, 1) := by decide +kernel
theorem dX8_section_91 : decode cX8_section 91 = .ok (.iadd, 1) := by decide +kernel
theorem dX8_section_92 : decode cX8_section 92 = .ok (.iload 4, 2) := by decide +kernel
theorem dX8_section_94 : decode cX8_section 94 = .ok (.iastore, 1) := by decide +kernel
theorem dX8_section_95 : decode cX8_section 95 = .ok (.iconst 1, 1) := by decide +kernel
theorem dX8_section_96 : decode cX8_section 96 = .ok (.ireturn, 1) := by decide +kernel
theorem dX8_tracks_0 : decode cX8_tracks 0 = .ok (.iload_n 1, 1) := by decide +kernel
theorem dX8_tracks_1 : decode cX8_tracks 1 = .ok (.iconst 0, 1) := by decide +kernel
theorem dX8_tracks_2 : decode cX8_tracks 2 = .ok (.aload_n 0, 1) := by decide +kernel
theorem dX8_tracks_3 : decode cX8_tracks 3 = .ok (.getfield 105, 3) := by decide +kernel
theorem dX8_tracks_6 : decode cX8_tracks 6 = .ok (.iconst 1, 1) := by decide +kernel
theorem dX8_tracks_7 : decode cX8_tracks 7 = .ok (.isub, 1) := by decide +kernel
theorem dX8_tracks_8 : decode cX8_tracks 8 = .ok (.invokestatic 111, 3) := by decide +kernel
theorem dX8_tracks_11 : decode cX8_tracks 11 = .ok (.ifCond .eq 13, 3) := by decide +kernel
theorem dX8_tracks_14 : decode cX8_tracks 14 = .ok (.iload_n 2, 1) := by decide +kernel
theorem dX8_tracks_15 : decode cX8_tracks 15 = .ok (.iconst 0, 1) := by decide +kernel
theorem dX8_tracks_16 : decode cX8_tracks 16 = .ok (.bipush 9, 2) := by decide +kernel
theorem dX8_tracks_18 : decode cX8_tracks 18 = .ok (.invokestatic 111, 3) := by decide +kernel
theorem dX8_tracks_21 : decode cX8_tracks 21 = .ok (.ifCond .ne 5, 3) := by decide +kernel
theorem dX8_tracks_24 : decode cX8_tracks 24 = .ok (.iconst 0, 1) := by decide +kernel
theorem dX8_tracks_25 : decode cX8_tracks 25 = .ok (.ireturn, 1) := by decide +kernel
theorem dX8_tracks_26 : decode cX8_tracks 26 = .ok (.aload_n 0, 1) := by decide +kernel
theorem dX8_tracks_27 : decode cX8_tracks 27 = .ok (.getfield 17, 3) := by decide +kernel
theorem dX8_tracks_30 : decode cX8_tracks 30 = .ok (.iload_n 1, 1) := by decide +kernel
theorem dX8_tracks_31 : decode cX8_tracks 31 = .ok (.iload_n 2, 1) := by decide +kernel
theorem dX8_tracks_32 : decode cX8_tracks 32 = .ok (.iastore, 1) := by decide +kernel
theorem dX8_tracks_33 : decode cX8_tracks 33 = .ok (.iconst 1, 1) := by decide +kernel
theorem dX8_tracks_34 : decode cX8_tracks 34 = .ok (.ireturn, 1) := by decide +kernel
theorem dX8_headway_0 : decode cX8_headway 0 = .ok (.iload_n 1, 1) := by decide +kernel
theorem dX8_headway_1 : decode cX8_headway 1 = .ok (.iconst 0, 1) := by decide +kernel
theorem dX8_headway_2 : decode cX8_headway 2 = .ok (.bipush 9, 2) := by decide +kernel
theorem dX8_headway_4 : decode cX8_headway 4 = .ok (.invokestatic 111, 3) := by decide +kernel
theorem dX8_headway_7 : decode cX8_headway 7 = .ok (.ifCond .ne 5, 3) := by decide +kernel
theorem dX8_headway_10 : decode cX8_headway 10 = .ok (.iconst 0, 1) := by decide +kernel
theorem dX8_headway_11 : decode cX8_headway 11 = .ok (.ireturn, 1) := by decide +kernel
theorem dX8_headway_12 : decode cX8_headway 12 = .ok (.aload_n 0, 1) := by decide +kernel
theorem dX8_headway_13 : decode cX8_headway 13 = .ok (.iload_n 1, 1) := by decide +kernel
theorem dX8_headway_14 : decode cX8_headway 14 = .ok (.putfield 20, 3) := by decide +kernel
theorem dX8_headway_17 : decode cX8_headway 17 = .ok (.iconst 1, 1) := by decide +kernel
theorem dX8_headway_18 : decode cX8_headway 18 = .ok (.ireturn, 1) := by decide +kernel
theorem dX8_works_0 : decode cX8_works 0 = .ok (.iload_n 1, 1) := by decide +kernel
theorem dX8_works_1 : decode cX8_works 1 = .ok (.iconst 0, 1) := by decide +kernel
theorem dX8_works_2 : decode cX8_works 2 = .ok (.aload_n 0, 1) := by decide +kernel
theorem dX8_works_3 : decode cX8_works 3 = .ok (.getfield 105, 3) := by decide +kernel
theorem dX8_works_6 : decode cX8_works 6 = .ok (.iconst 2, 1) := by decide +kernel
theorem dX8_works_7 : decode cX8_works 7 = .ok (.isub, 1) := by decide +kernel
theorem dX8_works_8 : decode cX8_works 8 = .ok (.invokestatic 111, 3) := by decide +kernel
theorem dX8_works_11 : decode cX8_works 11 = .ok (.ifCond .eq 36, 3) := by decide +kernel
theorem dX8_works_14 : decode cX8_works 14 = .ok (.iload_n 2, 1) := by decide +kernel
theorem dX8_works_15 : decode cX8_works 15 = .ok (.iconst 0, 1) := by decide +kernel
theorem dX8_works_16 : decode cX8_works 16 = .ok (.sipush 480, 3) := by decide +kernel
theorem dX8_works_19 : decode cX8_works 19 = .ok (.invokestatic 111, 3) := by decide +kernel
theorem dX8_works_22 : decode cX8_works 22 = .ok (.ifCond .eq 25, 3) := by decide +kernel
theorem dX8_works_25 : decode cX8_works 25 = .ok (.iload_n 3, 1) := by decide +kernel
theorem dX8_works_26 : decode cX8_works 26 = .ok (.iload_n 2, 1) := by decide +kernel
theorem dX8_works_27 : decode cX8_works 27 = .ok (.iconst 1, 1) := by decide +kernel
theorem dX8_works_28 : decode cX8_works 28 = .ok (.iadd, 1) := by decide +kernel
theorem dX8_works_29 : decode cX8_works 29 = .ok (.sipush 480, 3) := by decide +kernel
theorem dX8_works_32 : decode cX8_works 32 = .ok (.invokestatic 111, 3) := by decide +kernel
theorem dX8_works_35 : decode cX8_works 35 = .ok (.ifCond .eq 12, 3) := by decide +kernel
theorem dX8_works_38 : decode cX8_works 38 = .ok (.aload_n 0, 1) := by decide +kernel
theorem dX8_works_39 : decode cX8_works 39 = .ok (.getfield 115, 3) := by decide +kernel
theorem dX8_works_42 : decode cX8_works 42 = .ok (.bipush 10, 2) := by decide +kernel
theorem dX8_works_44 : decode cX8_works 44 = .ok (.if_icmp .ne 5, 3) := by decide +kernel
theorem dX8_works_47 : decode cX8_works 47 = .ok (.iconst 0, 1) := by decide +kernel
theorem dX8_works_48 : decode cX8_works 48 = .ok (.ireturn, 1) := by decide +kernel
theorem dX8_works_49 : decode cX8_works 49 = .ok (.aload_n 0, 1) := by decide +kernel
theorem dX8_works_50 : decode cX8_works 50 = .ok (.getfield 24, 3) := by decide +kernel
theorem dX8_works_53 : decode cX8_works 53 = .ok (.aload_n 0, 1) := by decide +kernel
theorem dX8_works_54 : decode cX8_works 54 = .ok (.getfield 115, 3) := by decide +kernel
theorem dX8_works_57 : decode cX8_works 57 = .ok (.iload_n 1, 1) := by decide +kernel
theorem dX8_works_58 : decode cX8_works 58 = .ok (.iastore, 1) := by decide +kernel
theorem dX8_works_59 : decode cX8_works 59 = .ok (.aload_n 0, 1) := by decide +kernel
theorem dX8_works_60 : decode cX8_works 60 = .ok (.getfield 27, 3) := by decide +kernel
theorem dX8_works_63 : decode cX8_works 63 = .ok (.aload_n 0, 1) := by decide +kernel
theorem dX8_works_64 : decode cX8_works 64 = .ok (.getfield 115, 3) := by decide +kernel
theorem dX8_works_67 : decode cX8_works 67 = .ok (.iload_n 2, 1) := by decide +kernel
theorem dX8_works_68 : decode cX8_works 68 = .ok (.iastore, 1) := by decide +kernel
theorem dX8_works_69 : decode cX8_works 69 = .ok (.aload_n 0, 1) := by decide +kernel
theorem dX8_works_70 : decode cX8_works 70 = .ok (.getfield 30, 3) := by decide +kernel
theorem dX8_works_73 : decode cX8_works 73 = .ok (.aload_n 0, 1) := by decide +kernel
theorem dX8_works_74 : decode cX8_works 74 = .ok (.getfield 115, 3) := by decide +kernel
theorem dX8_works_77 : decode cX8_works 77 = .ok (.iload_n 3, 1) := by decide +kernel
theorem dX8_works_78 : decode cX8_works 78 = .ok (.iastore, 1) := by decide +kernel
theorem dX8_works_79 : decode cX8_works 79 = .ok (.aload_n 0, 1) := by decide +kernel
theorem dX8_works_80 : decode cX8_works 80 = .ok (.dup, 1) := by decide +kernel
theorem dX8_works_81 : decode cX8_works 81 = .ok (.getfield 115, 3) := by decide +kernel
theorem dX8_works_84 : decode cX8_works 84 = .ok (.iconst 1, 1) := by decide +kernel
theorem dX8_works_85 : decode cX8_works 85 = .ok (.iadd, 1) := by decide +kernel
theorem dX8_works_86 : decode cX8_works 86 = .ok (.putfield 115, 3) := by decide +kernel
theorem dX8_works_89 : decode cX8_works 89 = .ok (.iconst 1, 1) := by decide +kernel
theorem dX8_works_90 : decode cX8_works 90 = .ok (.ireturn, 1) := by decide +kernel
theorem dX8_bid_0 : decode cX8_bid 0 = .ok (.iload_n 1, 1) := by decide +kernel
theorem dX8_bid_1 : decode cX8_bid 1 = .ok (.sipush 10000, 3) := by decide +kernel
theorem dX8_bid_4 : decode cX8_bid 4 = .ok (.idiv, 1) := by decide +kernel
theorem dX8_bid_5 : decode cX8_bid 5 = .ok (.istore 5, 2) := by decide +kernel
theorem dX8_bid_7 : decode cX8_bid 7 = .ok (.iload_n 1, 1) := by decide +kernel
theorem dX8_bid_8 : decode cX8_bid 8 = .ok (.sipush 1000, 3) := by decide +kernel
theorem dX8_bid_11 : decode cX8_bid 11 = .ok (.idiv, 1) := by decide +kernel
theorem dX8_bid_12 : decode cX8_bid 12 = .ok (.bipush 10, 2) := by decide +kernel
theorem dX8_bid_14 : decode cX8_bid 14 = .ok (.irem, 1) := by decide +kernel
theorem dX8_bid_15 : decode cX8_bid 15 = .ok (.istore 6, 2) := by decide +kernel
theorem dX8_bid_17 : decode cX8_bid 17 = .ok (.iload_n 1, 1) := by decide +kernel
theorem dX8_bid_18 : decode cX8_bid 18 = .ok (.bipush 100, 2) := by decide +kernel
theorem dX8_bid_20 : decode cX8_bid 20 = .ok (.idiv, 1) := by decide +kernel
theorem dX8_bid_21 : decode cX8_bid 21 = .ok (.bipush 10, 2) := by decide +kernel
theorem dX8_bid_23 : decode cX8_bid 23 = .ok (.irem, 1) := by decide +kernel
theorem dX8_bid_24 : decode cX8_bid 24 = .ok (.istore 7, 2) := by decide +kernel
theorem dX8_bid_26 : decode cX8_bid 26 = .ok (.iload_n 1, 1) := by decide +kernel
theorem dX8_bid_27 : decode cX8_bid 27 = .ok (.bipush 10, 2) := by decide +kernel
theorem dX8_bid_29 : decode cX8_bid 29 = .ok (.idiv, 1) := by decide +kernel
theorem dX8_bid_30 : decode cX8_bid 30 = .ok (.bipush 10, 2) := by decide +kernel
theorem dX8_bid_32 : decode cX8_bid 32 = .ok (.irem, 1) := by decide +kernel
theorem dX8_bid_33 : decode cX8_bid 33 = .ok (.istore 8, 2) := by decide +kernel
theorem dX8_bid_35 : decode cX8_bid 35 = .ok (.iload_n 1, 1) := by decide +kernel
theorem dX8_bid_36 : decode cX8_bid 36 = .ok (.ifCond .lt 52, 3) := by decide +kernel
theorem dX8_bid_39 : decode cX8_bid 39 = .ok (.iload_n 2, 1) := by decide +kernel
theorem dX8_bid_40 : decode cX8_bid 40 = .ok (.ifCond .lt 48, 3) := by decide +kernel
theorem dX8_bid_43 : decode cX8_bid 43 = .ok (.iload_n 1, 1) := by decide +kernel
theorem dX8_bid_44 : decode cX8_bid 44 = .ok (.bipush 10, 2) := by decide +kernel
theorem dX8_bid_46 : decode cX8_bid 46 = .ok (.irem, 1) := by decide +kernel
theorem dX8_bid_47 : decode cX8_bid 47 = .ok (.ifCond .ne 41, 3) := by decide +kernel
theorem dX8_bid_50 : decode cX8_bid 50 = .ok (.iload 5, 2) := by decide +kernel
theorem dX8_bid_52 : decode cX8_bid 52 = .ok (.bipush 6, 2) := by decide +kernel
theorem dX8_bid_54 : decode cX8_bid 54 = .ok (.if_icmp .ge 34, 3) := by decide +kernel
theorem dX8_bid_57 : decode cX8_bid 57 = .ok (.iload 6, 2) := by decide +kernel
theorem dX8_bid_59 : decode cX8_bid 59 = .ok (.aload_n 0, 1) := by decide +kernel
theorem dX8_bid_60 : decode cX8_bid 60 = .ok (.getfield 105, 3) := by decide +kernel
theorem dX8_bid_63 : decode cX8_bid 63 = .ok (.if_icmp .ge 25, 3) := by decide +kernel
theorem dX8_bid_66 : decode cX8_bid 66 = .ok (.iload 7, 2) := by decide +kernel
theorem dX8_bid_68 : decode cX8_bid 68 = .ok (.aload_n 0, 1) := by decide +kernel
theorem dX8_bid_69 : decode cX8_bid 69 = .ok (.getfield 105, 3) := by decide +kernel
theorem dX8_bid_72 : decode cX8_bid 72 = .ok (.if_icmp .ge 16, 3) := by decide +kernel
theorem dX8_bid_75 : decode cX8_bid 75 = .ok (.iload 6, 2) := by decide +kernel
theorem dX8_bid_77 : decode cX8_bid 77 = .ok (.iload 7, 2) := by decide +kernel
theorem dX8_bid_79 : decode cX8_bid 79 = .ok (.if_icmp .eq 9, 3) := by decide +kernel
theorem dX8_bid_82 : decode cX8_bid 82 = .ok (.iload 8, 2) := by decide +kernel
theorem dX8_bid_84 : decode cX8_bid 84 = .ok (.iconst 1, 1) := by decide +kernel
theorem dX8_bid_85 : decode cX8_bid 85 = .ok (.if_icmp .le 5, 3) := by decide +kernel
theorem dX8_bid_88 : decode cX8_bid 88 = .ok (.iconst (-1), 1) := by decide +kernel
theorem dX8_bid_89 : decode cX8_bid 89 = .ok (.ireturn, 1) := by decide +kernel
theorem dX8_bid_90 : decode cX8_bid 90 = .ok (.iload_n 2, 1) := by decide +kernel
theorem dX8_bid_91 : decode cX8_bid 91 = .ok (.sipush 1000, 3) := by decide +kernel
theorem dX8_bid_94 : decode cX8_bid 94 = .ok (.idiv, 1) := by decide +kernel
theorem dX8_bid_95 : decode cX8_bid 95 = .ok (.sipush 240, 3) := by decide +kernel
theorem dX8_bid_98 : decode cX8_bid 98 = .ok (.if_icmp .ge 45, 3) := by decide +kernel
theorem dX8_bid_101 : decode cX8_bid 101 = .ok (.iload_n 2, 1) := by decide +kernel
theorem dX8_bid_102 : decode cX8_bid 102 = .ok (.sipush 1000, 3) := by decide +kernel
theorem dX8_bid_105 : decode cX8_bid 105 = .ok (.irem, 1) := by decide +kernel
theorem dX8_bid_106 : decode cX8_bid 106 = .ok (.sipush 240, 3) := by decide +kernel
theorem dX8_bid_109 : decode cX8_bid 109 = .ok (.if_icmp .ge 34, 3) := by decide +kernel
theorem dX8_bid_112 : decode cX8_bid 112 = .ok (.iload_n 3, 1) := by decide +kernel
theorem dX8_bid_113 : decode cX8_bid 113 = .ok (.iconst 0, 1) := by decide +kernel
theorem dX8_bid_114 : decode cX8_bid 114 = .ok (.sipush 1000, 3) := by decide +kernel
theorem dX8_bid_117 : decode cX8_bid 117 = .ok (.invokestatic 111, 3) := by decide +kernel
theorem dX8_bid_120 : decode cX8_bid 120 = .ok (.ifCond .eq 23, 3) := by decide +kernel
theorem dX8_bid_123 : decode cX8_bid 123 = .ok (.iload 4, 2) := by decide +kernel
theorem dX8_bid_125 : decode cX8_bid 125 = .ok (.iconst 0, 1) := by decide +kernel
theorem dX8_bid_126 : decode cX8_bid 126 = .ok (.bipush 99, 2) := by decide +kernel
theorem dX8_bid_128 : decode cX8_bid 128 = .ok (.invokestatic 111, 3) := by decide +kernel
theorem dX8_bid_131 : decode cX8_bid 131 = .ok (.ifCond .eq 12, 3) := by decide +kernel
theorem dX8_bid_134 : decode cX8_bid 134 = .ok (.aload_n 0, 1) := by decide +kernel
theorem dX8_bid_135 : decode cX8_bid 135 = .ok (.getfield 108, 3) := by decide +kernel
theorem dX8_bid_138 : decode cX8_bid 138 = .ok (.bipush 16, 2) := by decide +kernel
theorem dX8_bid_140 : decode cX8_bid 140 = .ok (.if_icmp .ne 5, 3) := by decide +kernel
theorem dX8_bid_143 : decode cX8_bid 143 = .ok (.iconst (-1), 1) := by decide +kernel
theorem dX8_bid_144 : decode cX8_bid 144 = .ok (.ireturn, 1) := by decide +kernel
theorem dX8_bid_145 : decode cX8_bid 145 = .ok (.aload_n 0, 1) := by decide +kernel
theorem dX8_bid_146 : decode cX8_bid 146 = .ok (.getfield 33, 3) := by decide +kernel
theorem dX8_bid_149 : decode cX8_bid 149 = .ok (.aload_n 0, 1) := by decide +kernel
theorem dX8_bid_150 : decode cX8_bid 150 = .ok (.getfield 108, 3) := by decide +kernel
theorem dX8_bid_153 : decode cX8_bid 153 = .ok (.iload 5, 2) := by decide +kernel
theorem dX8_bid_155 : decode cX8_bid 155 = .ok (.iastore, 1) := by decide +kernel
theorem dX8_bid_156 : decode cX8_bid 156 = .ok (.aload_n 0, 1) := by decide +kernel
theorem dX8_bid_157 : decode cX8_bid 157 = .ok (.getfield 36, 3) := by decide +kernel
theorem dX8_bid_160 : decode cX8_bid 160 = .ok (.aload_n 0, 1) := by decide +kernel
theorem dX8_bid_161 : decode cX8_bid 161 = .ok (.getfield 108, 3) := by decide +kernel
theorem dX8_bid_164 : decode cX8_bid 164 = .ok (.iload 6, 2) := by decide +kernel
theorem dX8_bid_166 : decode cX8_bid 166 = .ok (.iastore, 1) := by decide +kernel
theorem dX8_bid_167 : decode cX8_bid 167 = .ok (.aload_n 0, 1) := by decide +kernel
theorem dX8_bid_168 : decode cX8_bid 168 = .ok (.getfield 39, 3) := by decide +kernel
theorem dX8_bid_171 : decode cX8_bid 171 = .ok (.aload_n 0, 1) := by decide +kernel
theorem dX8_bid_172 : decode cX8_bid 172 = .ok (.getfield 108, 3) := by decide +kernel
theorem dX8_bid_175 : decode cX8_bid 175 = .ok (.iload 7, 2) := by decide +kernel
theorem dX8_bid_177 : decode cX8_bid 177 = .ok (.iastore, 1) := by decide +kernel
theorem dX8_bid_178 : decode cX8_bid 178 = .ok (.aload_n 0, 1) := by decide +kernel
theorem dX8_bid_179 : decode cX8_bid 179 = .ok (.getfield 42, 3) := by decide +kernel
theorem dX8_bid_182 : decode cX8_bid 182 = .ok (.aload_n 0, 1) := by decide +kernel
theorem dX8_bid_183 : decode cX8_bid 183 = .ok (.getfield 108, 3) := by decide +kernel
theorem dX8_bid_186 : decode cX8_bid 186 = .ok (.iload 8, 2) := by decide +kernel
theorem dX8_bid_188 : decode cX8_bid 188 = .ok (.iastore, 1) := by decide +kernel
theorem dX8_bid_189 : decode cX8_bid 189 = .ok (.aload_n 0, 1) := by decide +kernel
theorem dX8_bid_190 : decode cX8_bid 190 = .ok (.getfield 45, 3) := by decide +kernel
theorem dX8_bid_193 : decode cX8_bid 193 = .ok (.aload_n 0, 1) := by decide +kernel
theorem dX8_bid_194 : decode cX8_bid 194 = .ok (.getfield 108, 3) := by decide +kernel
theorem dX8_bid_197 : decode cX8_bid 197 = .ok (.iload_n 2, 1) := by decide +kernel
theorem dX8_bid_198 : decode cX8_bid 198 = .ok (.sipush 1000, 3) := by decide +kernel
theorem dX8_bid_201 : decode cX8_bid 201 = .ok (.idiv, 1) := by decide +kernel
theorem dX8_bid_202 : decode cX8_bid 202 = .ok (.iastore, 1) := by decide +kernel
theorem dX8_bid_203 : decode cX8_bid 203 = .ok (.aload_n 0, 1) := by decide +kernel
theorem dX8_bid_204 : decode cX8_bid 204 = .ok (.getfield 48, 3) := by decide +kernel
theorem dX8_bid_207 : decode cX8_bid 207 = .ok (.aload_n 0, 1) := by decide +kernel
theorem dX8_bid_208 : decode cX8_bid 208 = .ok (.getfield 108, 3) := by decide +kernel
theorem dX8_bid_211 : decode cX8_bid 211 = .ok (.iload_n 2, 1) := by decide +kernel
theorem dX8_bid_212 : decode cX8_bid 212 = .ok (.sipush 1000, 3) := by decide +kernel
theorem dX8_bid_215 : decode cX8_bid 215 = .ok (.irem, 1) := by decide +kernel
theorem dX8_bid_216 : decode cX8_bid 216 = .ok (.iastore, 1) := by decide +kernel
theorem dX8_bid_217 : decode cX8_bid 217 = .ok (.aload_n 0, 1) := by decide +kernel
theorem dX8_bid_218 : decode cX8_bid 218 = .ok (.getfield 51, 3) := by decide +kernel
theorem dX8_bid_221 : decode cX8_bid 221 = .ok (.aload_n 0, 1) := by decide +kernel
theorem dX8_bid_222 : decode cX8_bid 222 = .ok (.getfield 108, 3) := by decide +kernel
theorem dX8_bid_225 : decode cX8_bid 225 = .ok (.iload_n 3, 1) := by decide +kernel
theorem dX8_bid_226 : decode cX8_bid 226 = .ok (.iastore, 1) := by decide +kernel
theorem dX8_bid_227 : decode cX8_bid 227 = .ok (.aload_n 0, 1) := by decide +kernel
theorem dX8_bid_228 : decode cX8_bid 228 = .ok (.getfield 54, 3) := by decide +kernel
theorem dX8_bid_231 : decode cX8_bid 231 = .ok (.aload_n 0, 1) := by decide +kernel
theorem dX8_bid_232 : decode cX8_bid 232 = .ok (.getfield 108, 3) := by decide +kernel
theorem dX8_bid_235 : decode cX8_bid 235 = .ok (.iload 4, 2) := by decide +kernel
theorem dX8_bid_237 : decode cX8_bid 237 = .ok (.iastore, 1) := by decide +kernel
theorem dX8_bid_238 : decode cX8_bid 238 = .ok (.aload_n 0, 1) := by decide +kernel
theorem dX8_bid_239 : decode cX8_bid 239 = .ok (.dup, 1) := by decide +kernel
theorem dX8_bid_240 : decode cX8_bid 240 = .ok (.getfield 108, 3) := by decide +kernel
theorem dX8_bid_243 : decode cX8_bid 243 = .ok (.iconst 1, 1) := by decide +kernel
theorem dX8_bid_244 : decode cX8_bid 244 = .ok (.iadd, 1) := by decide +kernel
theorem dX8_bid_245 : decode cX8_bid 245 = .ok (.putfield 108, 3) := by decide +kernel
theorem dX8_bid_248 : decode cX8_bid 248 = .ok (.aload_n 0, 1) := by decide +kernel
theorem dX8_bid_249 : decode cX8_bid 249 = .ok (.getfield 108, 3) := by decide +kernel
theorem dX8_bid_252 : decode cX8_bid 252 = .ok (.iconst 1, 1) := by decide +kernel
theorem dX8_bid_253 : decode cX8_bid 253 = .ok (.isub, 1) := by decide +kernel
theorem dX8_bid_254 : decode cX8_bid 254 = .ok (.ireturn, 1) := by decide +kernel
theorem dX8_link_0 : decode cX8_link 0 = .ok (.aload_n 0, 1) := by decide +kernel
theorem dX8_link_1 : decode cX8_link 1 = .ok (.iload_n 1, 1) := by decide +kernel
theorem dX8_link_2 : decode cX8_link 2 = .ok (.invokevirtual 118, 3) := by decide +kernel
theorem dX8_link_5 : decode cX8_link 5 = .ok (.ifCond .eq 36, 3) := by decide +kernel
theorem dX8_link_8 : decode cX8_link 8 = .ok (.aload_n 0, 1) := by decide +kernel
theorem dX8_link_9 : decode cX8_link 9 = .ok (.iload_n 2, 1) := by decide +kernel
theorem dX8_link_10 : decode cX8_link 10 = .ok (.invokevirtual 118, 3) := by decide +kernel
theorem dX8_link_13 : decode cX8_link 13 = .ok (.ifCond .eq 28, 3) := by decide +kernel
theorem dX8_link_16 : decode cX8_link 16 = .ok (.iload_n 1, 1) := by decide +kernel
theorem dX8_link_17 : decode cX8_link 17 = .ok (.iload_n 2, 1) := by decide +kernel
theorem dX8_link_18 : decode cX8_link 18 = .ok (.if_icmp .eq 23, 3) := by decide +kernel
theorem dX8_link_21 : decode cX8_link 21 = .ok (.aload_n 0, 1) := by decide +kernel
theorem dX8_link_22 : decode cX8_link 22 = .ok (.getfield 57, 3) := by decide +kernel
theorem dX8_link_25 : decode cX8_link 25 = .ok (.iload_n 1, 1) := by decide +kernel
theorem dX8_link_26 : decode cX8_link 26 = .ok (.iaload, 1) := by decide +kernel
theorem dX8_link_27 : decode cX8_link 27 = .ok (.iconst (-1), 1) := by decide +kernel
theorem dX8_link_28 : decode cX8_link 28 = .ok (.if_icmp .ne 13, 3) := by decide +kernel
theorem dX8_link_31 : decode cX8_link 31 = .ok (.aload_n 0, 1) := by decide +kernel
theorem dX8_link_32 : decode cX8_link 32 = .ok (.getfield 57, 3) := by decide +kernel
theorem dX8_link_35 : decode cX8_link 35 = .ok (.iload_n 2, 1) := by decide +kernel
theorem dX8_link_36 : decode cX8_link 36 = .ok (.iaload, 1) := by decide +kernel
theorem dX8_link_37 : decode cX8_link 37 = .ok (.iconst (-1), 1) := by decide +kernel
theorem dX8_link_38 : decode cX8_link 38 = .ok (.if_icmp .eq 5, 3) := by decide +kernel
theorem dX8_link_41 : decode cX8_link 41 = .ok (.iconst 0, 1) := by decide +kernel
theorem dX8_link_42 : decode cX8_link 42 = .ok (.ireturn, 1) := by decide +kernel
theorem dX8_link_43 : decode cX8_link 43 = .ok (.aload_n 0, 1) := by decide +kernel
theorem dX8_link_44 : decode cX8_link 44 = .ok (.getfield 57, 3) := by decide +kernel
theorem dX8_link_47 : decode cX8_link 47 = .ok (.iload_n 1, 1) := by decide +kernel
theorem dX8_link_48 : decode cX8_link 48 = .ok (.iload_n 2, 1) := by decide +kernel
theorem dX8_link_49 : decode cX8_link 49 = .ok (.iastore, 1) := by decide +kernel
theorem dX8_link_50 : decode cX8_link 50 = .ok (.aload_n 0, 1) := by decide +kernel
theorem dX8_link_51 : decode cX8_link 51 = .ok (.getfield 57, 3) := by decide +kernel
theorem dX8_link_54 : decode cX8_link 54 = .ok (.iload_n 2, 1) := by decide +kernel
theorem dX8_link_55 : decode cX8_link 55 = .ok (.iload_n 1, 1) := by decide +kernel
theorem dX8_link_56 : decode cX8_link 56 = .ok (.iastore, 1) := by decide +kernel
theorem dX8_link_57 : decode cX8_link 57 = .ok (.iconst 1, 1) := by decide +kernel
theorem dX8_link_58 : decode cX8_link 58 = .ok (.ireturn, 1) := by decide +kernel
theorem dX8_legs_0 : decode cX8_legs 0 = .ok (.aload_n 0, 1) := by decide +kernel
theorem dX8_legs_1 : decode cX8_legs 1 = .ok (.getfield 36, 3) := by decide +kernel
theorem dX8_legs_4 : decode cX8_legs 4 = .ok (.iload_n 1, 1) := by decide +kernel
theorem dX8_legs_5 : decode cX8_legs 5 = .ok (.iaload, 1) := by decide +kernel
theorem dX8_legs_6 : decode cX8_legs 6 = .ok (.aload_n 0, 1) := by decide +kernel
theorem dX8_legs_7 : decode cX8_legs 7 = .ok (.getfield 39, 3) := by decide +kernel
theorem dX8_legs_10 : decode cX8_legs 10 = .ok (.iload_n 1, 1) := by decide +kernel
theorem dX8_legs_11 : decode cX8_legs 11 = .ok (.iaload, 1) := by decide +kernel
theorem dX8_legs_12 : decode cX8_legs 12 = .ok (.if_icmp .ge 19, 3) := by decide +kernel
theorem dX8_legs_15 : decode cX8_legs 15 = .ok (.aload_n 0, 1) := by decide +kernel
theorem dX8_legs_16 : decode cX8_legs 16 = .ok (.getfield 39, 3) := by decide +kernel
theorem dX8_legs_19 : decode cX8_legs 19 = .ok (.iload_n 1, 1) := by decide +kernel
theorem dX8_legs_20 : decode cX8_legs 20 = .ok (.iaload, 1) := by decide +kernel
theorem dX8_legs_21 : decode cX8_legs 21 = .ok (.aload_n 0, 1) := by decide +kernel
theorem dX8_legs_22 : decode cX8_legs 22 = .ok (.getfield 36, 3) := by decide +kernel
theorem dX8_legs_25 : decode cX8_legs 25 = .ok (.iload_n 1, 1) := by decide +kernel
theorem dX8_legs_26 : decode cX8_legs 26 = .ok (.iaload, 1) := by decide +kernel
theorem dX8_legs_27 : decode cX8_legs 27 = .ok (.isub, 1) := by decide +kernel
theorem dX8_legs_28 : decode cX8_legs 28 = .ok (.goto 16, 3) := by decide +kernel
theorem dX8_legs_31 : decode cX8_legs 31 = .ok (.aload_n 0, 1) := by decide +kernel
theorem dX8_legs_32 : decode cX8_legs 32 = .ok (.getfield 36, 3) := by decide +kernel
theorem dX8_legs_35 : decode cX8_legs 35 = .ok (.iload_n 1, 1) := by decide +kernel
theorem dX8_legs_36 : decode cX8_legs 36 = .ok (.iaload, 1) := by decide +kernel
theorem dX8_legs_37 : decode cX8_legs 37 = .ok (.aload_n 0, 1) := by decide +kernel
theorem dX8_legs_38 : decode cX8_legs 38 = .ok (.getfield 39, 3) := by decide +kernel
theorem dX8_legs_41 : decode cX8_legs 41 = .ok (.iload_n 1, 1) := by decide +kernel
theorem dX8_legs_42 : decode cX8_legs 42 = .ok (.iaload, 1) := by decide +kernel
theorem dX8_legs_43 : decode cX8_legs 43 = .ok (.isub, 1) := by decide +kernel
theorem dX8_legs_44 : decode cX8_legs 44 = .ok (.ireturn, 1) := by decide +kernel
theorem dX8_stationOf_0 : decode cX8_stationOf 0 = .ok (.aload_n 0, 1) := by decide +kernel
theorem dX8_stationOf_1 : decode cX8_stationOf 1 = .ok (.getfield 36, 3) := by decide +kernel
theorem dX8_stationOf_4 : decode cX8_stationOf 4 = .ok (.iload_n 1, 1) := by decide +kernel
theorem dX8_stationOf_5 : decode cX8_stationOf 5 = .ok (.iaload, 1) := by decide +kernel
theorem dX8_stationOf_6 : decode cX8_stationOf 6 = .ok (.aload_n 0, 1) := by decide +kernel
theorem dX8_stationOf_7 : decode cX8_stationOf 7 = .ok (.getfield 39, 3) := by decide +kernel
theorem dX8_stationOf_10 : decode cX8_stationOf 10 = .ok (.iload_n 1, 1) := by decide +kernel
theorem dX8_stationOf_11 : decode cX8_stationOf 11 = .ok (.iaload, 1) := by decide +kernel
theorem dX8_stationOf_12 : decode cX8_stationOf 12 = .ok (.if_icmp .ge 14, 3) := by decide +kernel
theorem dX8_stationOf_15 : decode cX8_stationOf 15 = .ok (.aload_n 0, 1) := by decide +kernel
theorem dX8_stationOf_16 : decode cX8_stationOf 16 = .ok (.getfield 36, 3) := by decide +kernel
theorem dX8_stationOf_19 : decode cX8_stationOf 19 = .ok (.iload_n 1, 1) := by decide +kernel
theorem dX8_stationOf_20 : decode cX8_stationOf 20 = .ok (.iaload, 1) := by decide +kernel
theorem dX8_stationOf_21 : decode cX8_stationOf 21 = .ok (.iload_n 2, 1) := by decide +kernel
theorem dX8_stationOf_22 : decode cX8_stationOf 22 = .ok (.iadd, 1) := by decide +kernel
theorem dX8_stationOf_23 : decode cX8_stationOf 23 = .ok (.goto 11, 3) := by decide +kernel
theorem dX8_stationOf_26 : decode cX8_stationOf 26 = .ok (.aload_n 0, 1) := by decide +kernel
theorem dX8_stationOf_27 : decode cX8_stationOf 27 = .ok (.getfield 36, 3) := by decide +kernel
theorem dX8_stationOf_30 : decode cX8_stationOf 30 = .ok (.iload_n 1, 1) := by decide +kernel
theorem dX8_stationOf_31 : decode cX8_stationOf 31 = .ok (.iaload, 1) := by decide +kernel
theorem dX8_stationOf_32 : decode cX8_stationOf 32 = .ok (.iload_n 2, 1) := by decide +kernel
theorem dX8_stationOf_33 : decode cX8_stationOf 33 = .ok (.isub, 1) := by decide +kernel
theorem dX8_stationOf_34 : decode cX8_stationOf 34 = .ok (.ireturn, 1) := by decide +kernel
theorem dX8_sectionOf_0 : decode cX8_sectionOf 0 = .ok (.aload_n 0, 1) := by decide +kernel
theorem dX8_sectionOf_1 : decode cX8_sectionOf 1 = .ok (.getfield 36, 3) := by decide +kernel
theorem dX8_sectionOf_4 : decode cX8_sectionOf 4 = .ok (.iload_n 1, 1) := by decide +kernel
theorem dX8_sectionOf_5 : decode cX8_sectionOf 5 = .ok (.iaload, 1) := by decide +kernel
theorem dX8_sectionOf_6 : decode cX8_sectionOf 6 = .ok (.aload_n 0, 1) := by decide +kernel
theorem dX8_sectionOf_7 : decode cX8_sectionOf 7 = .ok (.getfield 39, 3) := by decide +kernel
theorem dX8_sectionOf_10 : decode cX8_sectionOf 10 = .ok (.iload_n 1, 1) := by decide +kernel
theorem dX8_sectionOf_11 : decode cX8_sectionOf 11 = .ok (.iaload, 1) := by decide +kernel
theorem dX8_sectionOf_12 : decode cX8_sectionOf 12 = .ok (.if_icmp .ge 14, 3) := by decide +kernel
theorem dX8_sectionOf_15 : decode cX8_sectionOf 15 = .ok (.aload_n 0, 1) := by decide +kernel
theorem dX8_sectionOf_16 : decode cX8_sectionOf 16 = .ok (.getfield 36, 3) := by decide +kernel
theorem dX8_sectionOf_19 : decode cX8_sectionOf 19 = .ok (.iload_n 1, 1) := by decide +kernel
theorem dX8_sectionOf_20 : decode cX8_sectionOf 20 = .ok (.iaload, 1) := by decide +kernel
theorem dX8_sectionOf_21 : decode cX8_sectionOf 21 = .ok (.iload_n 2, 1) := by decide +kernel
theorem dX8_sectionOf_22 : decode cX8_sectionOf 22 = .ok (.iadd, 1) := by decide +kernel
theorem dX8_sectionOf_23 : decode cX8_sectionOf 23 = .ok (.goto 13, 3) := by decide +kernel
theorem dX8_sectionOf_26 : decode cX8_sectionOf 26 = .ok (.aload_n 0, 1) := by decide +kernel
theorem dX8_sectionOf_27 : decode cX8_sectionOf 27 = .ok (.getfield 36, 3) := by decide +kernel
theorem dX8_sectionOf_30 : decode cX8_sectionOf 30 = .ok (.iload_n 1, 1) := by decide +kernel
theorem dX8_sectionOf_31 : decode cX8_sectionOf 31 = .ok (.iaload, 1) := by decide +kernel
theorem dX8_sectionOf_32 : decode cX8_sectionOf 32 = .ok (.iload_n 2, 1) := by decide +kernel
theorem dX8_sectionOf_33 : decode cX8_sectionOf 33 = .ok (.isub, 1) := by decide +kernel
theorem dX8_sectionOf_34 : decode cX8_sectionOf 34 = .ok (.iconst 1, 1) := by decide +kernel
theorem dX8_sectionOf_35 : decode cX8_sectionOf 35 = .ok (.isub, 1) := by decide +kernel
theorem dX8_sectionOf_36 : decode cX8_sectionOf 36 = .ok (.ireturn, 1) := by decide +kernel
theorem dX8_longOf_0 : decode cX8_longOf 0 = .ok (.aload_n 0, 1) := by decide +kernel
theorem dX8_longOf_1 : decode cX8_longOf 1 = .ok (.getfield 13, 3) := by decide +kernel
theorem dX8_longOf_4 : decode cX8_longOf 4 = .ok (.iconst 2, 1) := by decide +kernel
theorem dX8_longOf_5 : decode cX8_longOf 5 = .ok (.aload_n 0, 1) := by decide +kernel
theorem dX8_longOf_6 : decode cX8_longOf 6 = .ok (.iload_n 1, 1) := by decide +kernel
theorem dX8_longOf_7 : decode cX8_longOf 7 = .ok (.iload_n 2, 1) := by decide +kernel
theorem dX8_longOf_8 : decode cX8_longOf 8 = .ok (.invokevirtual 122, 3) := by decide +kernel
theorem dX8_longOf_11 : decode cX8_longOf 11 = .ok (.imul, 1) := by decide +kernel
theorem dX8_longOf_12 : decode cX8_longOf 12 = .ok (.aload_n 0, 1) := by decide +kernel
theorem dX8_longOf_13 : decode cX8_longOf 13 = .ok (.getfield 42, 3) := by decide +kernel
theorem dX8_longOf_16 : decode cX8_longOf 16 = .ok (.iload_n 1, 1) := by decide +kernel
theorem dX8_longOf_17 : decode cX8_longOf 17 = .ok (.iaload, 1) := by decide +kernel
theorem dX8_longOf_18 : decode cX8_longOf 18 = .ok (.iadd, 1) := by decide +kernel
theorem dX8_longOf_19 : decode cX8_longOf 19 = .ok (.iaload, 1) := by decide +kernel
theorem dX8_longOf_20 : decode cX8_longOf 20 = .ok (.ireturn, 1) := by decide +kernel
theorem dX8_legOver_0 : decode cX8_legOver 0 = .ok (.iconst 0, 1) := by decide +kernel
theorem dX8_legOver_1 : decode cX8_legOver 1 = .ok (.istore_n 3, 1) := by decide +kernel
theorem dX8_legOver_2 : decode cX8_legOver 2 = .ok (.iload_n 3, 1) := by decide +kernel
theorem dX8_legOver_3 : decode cX8_legOver 3 = .ok (.aload_n 0, 1) := by decide +kernel
theorem dX8_legOver_4 : decode cX8_legOver 4 = .ok (.iload_n 1, 1) := by decide +kernel
theorem dX8_legOver_5 : decode cX8_legOver 5 = .ok (.invokevirtual 126, 3) := by decide +kernel
theorem dX8_legOver_8 : decode cX8_legOver 8 = .ok (.if_icmp .ge 21, 3) := by decide +kernel
theorem dX8_legOver_11 : decode cX8_legOver 11 = .ok (.aload_n 0, 1) := by decide +kernel
theorem dX8_legOver_12 : decode cX8_legOver 12 = .ok (.iload_n 1, 1) := by decide +kernel
theorem dX8_legOver_13 : decode cX8_legOver 13 = .ok (.iload_n 3, 1) := by decide +kernel
theorem dX8_legOver_14 : decode cX8_legOver 14 = .ok (.invokevirtual 122, 3) := by decide +kernel
theorem dX8_legOver_17 : decode cX8_legOver 17 = .ok (.iload_n 2, 1) := by decide +kernel
theorem dX8_legOver_18 : decode cX8_legOver 18 = .ok (.if_icmp .ne 5, 3) := by decide +kernel
theorem dX8_legOver_21 : decode cX8_legOver 21 = .ok (.iload_n 3, 1) := by decide +kernel
theorem dX8_legOver_22 : decode cX8_legOver 22 = .ok (.ireturn, 1) := by decide +kernel
theorem dX8_legOver_23 : decode cX8_legOver 23 = .ok (.iinc 3 1, 3) := by decide +kernel
theorem dX8_legOver_26 : decode cX8_legOver 26 = .ok (.goto (-24), 3) := by decide +kernel
theorem dX8_legOver_29 : decode cX8_legOver 29 = .ok (.iconst (-1), 1) := by decide +kernel
theorem dX8_legOver_30 : decode cX8_legOver 30 = .ok (.ireturn, 1) := by decide +kernel
theorem dX8_isSameWay_0 : decode cX8_isSameWay 0 = .ok (.aload_n 0, 1) := by decide +kernel
theorem dX8_isSameWay_1 : decode cX8_isSameWay 1 = .ok (.getfield 36, 3) := by decide +kernel
theorem dX8_isSameWay_4 : decode cX8_isSameWay 4 = .ok (.iload_n 1, 1) := by decide +kernel
theorem dX8_isSameWay_5 : decode cX8_isSameWay 5 = .ok (.iaload, 1) := by decide +kernel
theorem dX8_isSameWay_6 : decode cX8_isSameWay 6 = .ok (.aload_n 0, 1) := by decide +kernel
theorem dX8_isSameWay_7 : decode cX8_isSameWay 7 = .ok (.getfield 39, 3) := by decide +kernel
theorem dX8_isSameWay_10 : decode cX8_isSameWay 10 = .ok (.iload_n 1, 1) := by decide +kernel
theorem dX8_isSameWay_11 : decode cX8_isSameWay 11 = .ok (.iaload, 1) := by decide +kernel
theorem dX8_isSameWay_12 : decode cX8_isSameWay 12 = .ok (.if_icmp .ge 7, 3) := by decide +kernel
theorem dX8_isSameWay_15 : decode cX8_isSameWay 15 = .ok (.iconst 1, 1) := by decide +kernel
theorem dX8_isSameWay_16 : decode cX8_isSameWay 16 = .ok (.goto 4, 3) := by decide +kernel
theorem dX8_isSameWay_19 : decode cX8_isSameWay 19 = .ok (.iconst 0, 1) := by decide +kernel
theorem dX8_isSameWay_20 : decode cX8_isSameWay 20 = .ok (.aload_n 0, 1) := by decide +kernel
theorem dX8_isSameWay_21 : decode cX8_isSameWay 21 = .ok (.getfield 36, 3) := by decide +kernel
theorem dX8_isSameWay_24 : decode cX8_isSameWay 24 = .ok (.iload_n 2, 1) := by decide +kernel
theorem dX8_isSameWay_25 : decode cX8_isSameWay 25 = .ok (.iaload, 1) := by decide +kernel
theorem dX8_isSameWay_26 : decode cX8_isSameWay 26 = .ok (.aload_n 0, 1) := by decide +kernel
theorem dX8_isSameWay_27 : decode cX8_isSameWay 27 = .ok (.getfield 39, 3) := by decide +kernel
theorem dX8_isSameWay_30 : decode cX8_isSameWay 30 = .ok (.iload_n 2, 1) := by decide +kernel
theorem dX8_isSameWay_31 : decode cX8_isSameWay 31 = .ok (.iaload, 1) := by decide +kernel
theorem dX8_isSameWay_32 : decode cX8_isSameWay 32 = .ok (.if_icmp .ge 7, 3) := by decide +kernel
theorem dX8_isSameWay_35 : decode cX8_isSameWay 35 = .ok (.iconst 1, 1) := by decide +kernel
theorem dX8_isSameWay_36 : decode cX8_isSameWay 36 = .ok (.goto 4, 3) := by decide +kernel
theorem dX8_isSameWay_39 : decode cX8_isSameWay 39 = .ok (.iconst 0, 1) := by decide +kernel
theorem dX8_isSameWay_40 : decode cX8_isSameWay 40 = .ok (.if_icmp .ne 7, 3) := by decide +kernel
theorem dX8_isSameWay_43 : decode cX8_isSameWay 43 = .ok (.iconst 1, 1) := by decide +kernel
theorem dX8_isSameWay_44 : decode cX8_isSameWay 44 = .ok (.goto 4, 3) := by decide +kernel
theorem dX8_isSameWay_47 : decode cX8_isSameWay 47 = .ok (.iconst 0, 1) := by decide +kernel
theorem dX8_isSameWay_48 : decode cX8_isSameWay 48 = .ok (.ireturn, 1) := by decide +kernel
theorem dX8_isClosed_0 : decode cX8_isClosed 0 = .ok (.iconst 0, 1) := by decide +kernel
theorem dX8_isClosed_1 : decode cX8_isClosed 1 = .ok (.istore_n 3, 1) := by decide +kernel
theorem dX8_isClosed_2 : decode cX8_isClosed 2 = .ok (.iload_n 3, 1) := by decide +kernel
theorem dX8_isClosed_3 : decode cX8_isClosed 3 = .ok (.aload_n 0, 1) := by decide +kernel
theorem dX8_isClosed_4 : decode cX8_isClosed 4 = .ok (.getfield 115, 3) := by decide +kernel
theorem dX8_isClosed_7 : decode cX8_isClosed 7 = .ok (.if_icmp .ge 42, 3) := by decide +kernel
theorem dX8_isClosed_10 : decode cX8_isClosed 10 = .ok (.aload_n 0, 1) := by decide +kernel
theorem dX8_isClosed_11 : decode cX8_isClosed 11 = .ok (.getfield 24, 3) := by decide +kernel
theorem dX8_isClosed_14 : decode cX8_isClosed 14 = .ok (.iload_n 3, 1) := by decide +kernel
theorem dX8_isClosed_15 : decode cX8_isClosed 15 = .ok (.iaload, 1) := by decide +kernel
theorem dX8_isClosed_16 : decode cX8_isClosed 16 = .ok (.iload_n 1, 1) := by decide +kernel
theorem dX8_isClosed_17 : decode cX8_isClosed 17 = .ok (.if_icmp .ne 26, 3) := by decide +kernel
theorem dX8_isClosed_20 : decode cX8_isClosed 20 = .ok (.iload_n 2, 1) := by decide +kernel
theorem dX8_isClosed_21 : decode cX8_isClosed 21 = .ok (.aload_n 0, 1) := by decide +kernel
theorem dX8_isClosed_22 : decode cX8_isClosed 22 = .ok (.getfield 27, 3) := by decide +kernel
theorem dX8_isClosed_25 : decode cX8_isClosed 25 = .ok (.iload_n 3, 1) := by decide +kernel
theorem dX8_isClosed_26 : decode cX8_isClosed 26 = .ok (.iaload, 1) := by decide +kernel
theorem dX8_isClosed_27 : decode cX8_isClosed 27 = .ok (.aload_n 0, 1) := by decide +kernel
theorem dX8_isClosed_28 : decode cX8_isClosed 28 = .ok (.getfield 30, 3) := by decide +kernel
theorem dX8_isClosed_31 : decode cX8_isClosed 31 = .ok (.iload_n 3, 1) := by decide +kernel
theorem dX8_isClosed_32 : decode cX8_isClosed 32 = .ok (.iaload, 1) := by decide +kernel
theorem dX8_isClosed_33 : decode cX8_isClosed 33 = .ok (.iconst 1, 1) := by decide +kernel
theorem dX8_isClosed_34 : decode cX8_isClosed 34 = .ok (.isub, 1) := by decide +kernel
theorem dX8_isClosed_35 : decode cX8_isClosed 35 = .ok (.invokestatic 111, 3) := by decide +kernel
theorem dX8_isClosed_38 : decode cX8_isClosed 38 = .ok (.ifCond .eq 5, 3) := by decide +kernel
theorem dX8_isClosed_41 : decode cX8_isClosed 41 = .ok (.iconst 1, 1) := by decide +kernel
theorem dX8_isClosed_42 : decode cX8_isClosed 42 = .ok (.ireturn, 1) := by decide +kernel
theorem dX8_isClosed_43 : decode cX8_isClosed 43 = .ok (.iinc 3 1, 3) := by decide +kernel
theorem dX8_isClosed_46 : decode cX8_isClosed 46 = .ok (.goto (-44), 3) := by decide +kernel
theorem dX8_isClosed_49 : decode cX8_isClosed 49 = .ok (.iconst 0, 1) := by decide +kernel
theorem dX8_isClosed_50 : decode cX8_isClosed 50 = .ok (.ireturn, 1) := by decide +kernel
theorem dX8_behind_0 : decode cX8_behind 0 = .ok (.aload_n 0, 1) := by decide +kernel
theorem dX8_behind_1 : decode cX8_behind 1 = .ok (.getfield 20, 3) := by decide +kernel
theorem dX8_behind_4 : decode cX8_behind 4 = .ok (.ifCond .le 12, 3) := by decide +kernel
theorem dX8_behind_7 : decode cX8_behind 7 = .ok (.aload_n 0, 1) := by decide +kernel
theorem dX8_behind_8 : decode cX8_behind 8 = .ok (.getfield 20, 3) := by decide +kernel
theorem dX8_behind_11 : decode cX8_behind 11 = .ok (.iconst 1, 1) := by decide +kernel
theorem dX8_behind_12 : decode cX8_behind 12 = .ok (.isub, 1) := by decide +kernel
theorem dX8_behind_13 : decode cX8_behind 13 = .ok (.goto 4, 3) := by decide +kernel
theorem dX8_behind_16 : decode cX8_behind 16 = .ok (.iconst 0, 1) := by decide +kernel
theorem dX8_behind_17 : decode cX8_behind 17 = .ok (.ireturn, 1) := by decide +kernel
theorem dX8_areApart_0 : decode cX8_areApart 0 = .ok (.iload_n 1, 1) := by decide +kernel
theorem dX8_areApart_1 : decode cX8_areApart 1 = .ok (.iload_n 3, 1) := by decide +kernel
theorem dX8_areApart_2 : decode cX8_areApart 2 = .ok (.iload 4, 2) := by decide +kernel
theorem dX8_areApart_4 : decode cX8_areApart 4 = .ok (.iadd, 1) := by decide +kernel
theorem dX8_areApart_5 : decode cX8_areApart 5 = .ok (.aload_n 0, 1) := by decide +kernel
theorem dX8_areApart_6 : decode cX8_areApart 6 = .ok (.invokevirtual 130, 3) := by decide +kernel
theorem dX8_areApart_9 : decode cX8_areApart 9 = .ok (.iadd, 1) := by decide +kernel
theorem dX8_areApart_10 : decode cX8_areApart 10 = .ok (.if_icmp .ge 15, 3) := by decide +kernel
theorem dX8_areApart_13 : decode cX8_areApart 13 = .ok (.iload_n 3, 1) := by decide +kernel
theorem dX8_areApart_14 : decode cX8_areApart 14 = .ok (.iload_n 1, 1) := by decide +kernel
theorem dX8_areApart_15 : decode cX8_areApart 15 = .ok (.iload_n 2, 1) := by decide +kernel
theorem dX8_areApart_16 : decode cX8_areApart 16 = .ok (.iadd, 1) := by decide +kernel
theorem dX8_areApart_17 : decode cX8_areApart 17 = .ok (.aload_n 0, 1) := by decide +kernel
theorem dX8_areApart_18 : decode cX8_areApart 18 = .ok (.invokevirtual 130, 3) := by decide +kernel
theorem dX8_areApart_21 : decode cX8_areApart 21 = .ok (.iadd, 1) := by decide +kernel
theorem dX8_areApart_22 : decode cX8_areApart 22 = .ok (.if_icmp .lt 7, 3) := by decide +kernel
theorem dX8_areApart_25 : decode cX8_areApart 25 = .ok (.iconst 1, 1) := by decide +kernel
theorem dX8_areApart_26 : decode cX8_areApart 26 = .ok (.goto 4, 3) := by decide +kernel
theorem dX8_areApart_29 : decode cX8_areApart 29 = .ok (.iconst 0, 1) := by decide +kernel
theorem dX8_areApart_30 : decode cX8_areApart 30 = .ok (.ireturn, 1) := by decide +kernel
theorem dX8_canLeave_0 : decode cX8_canLeave 0 = .ok (.aload_n 0, 1) := by decide +kernel
theorem dX8_canLeave_1 : decode cX8_canLeave 1 = .ok (.iload_n 1, 1) := by decide +kernel
theorem dX8_canLeave_2 : decode cX8_canLeave 2 = .ok (.iload_n 2, 1) := by decide +kernel
theorem dX8_canLeave_3 : decode cX8_canLeave 3 = .ok (.invokevirtual 122, 3) := by decide +kernel
theorem dX8_canLeave_6 : decode cX8_canLeave 6 = .ok (.istore 4, 2) := by decide +kernel
theorem dX8_canLeave_8 : decode cX8_canLeave 8 = .ok (.aload_n 0, 1) := by decide +kernel
theorem dX8_canLeave_9 : decode cX8_canLeave 9 = .ok (.iload_n 1, 1) := by decide +kernel
theorem dX8_canLeave_10 : decode cX8_canLeave 10 = .ok (.iload_n 2, 1) := by decide +kernel
theorem dX8_canLeave_11 : decode cX8_canLeave 11 = .ok (.invokevirtual 134, 3) := by decide +kernel
theorem dX8_canLeave_14 : decode cX8_canLeave 14 = .ok (.istore 5, 2) := by decide +kernel
theorem dX8_canLeave_16 : decode cX8_canLeave 16 = .ok (.iload_n 3, 1) := by decide +kernel
theorem dX8_canLeave_17 : decode cX8_canLeave 17 = .ok (.istore 6, 2) := by decide +kernel
theorem dX8_canLeave_19 : decode cX8_canLeave 19 = .ok (.iload 6, 2) := by decide +kernel
theorem dX8_canLeave_21 : decode cX8_canLeave 21 = .ok (.iload_n 3, 1) := by decide +kernel
theorem dX8_canLeave_22 : decode cX8_canLeave 22 = .ok (.iload 5, 2) := by decide +kernel
theorem dX8_canLeave_24 : decode cX8_canLeave 24 = .ok (.iadd, 1) := by decide +kernel
theorem dX8_canLeave_25 : decode cX8_canLeave 25 = .ok (.if_icmp .ge 22, 3) := by decide +kernel
theorem dX8_canLeave_28 : decode cX8_canLeave 28 = .ok (.aload_n 0, 1) := by decide +kernel
theorem dX8_canLeave_29 : decode cX8_canLeave 29 = .ok (.iload 4, 2) := by decide +kernel
theorem dX8_canLeave_31 : decode cX8_canLeave 31 = .ok (.iload 6, 2) := by decide +kernel
theorem dX8_canLeave_33 : decode cX8_canLeave 33 = .ok (.invokevirtual 137, 3) := by decide +kernel
theorem dX8_canLeave_36 : decode cX8_canLeave 36 = .ok (.ifCond .eq 5, 3) := by decide +kernel
theorem dX8_canLeave_39 : decode cX8_canLeave 39 = .ok (.iconst 0, 1) := by decide +kernel
theorem dX8_canLeave_40 : decode cX8_canLeave 40 = .ok (.ireturn, 1) := by decide +kernel
theorem dX8_canLeave_41 : decode cX8_canLeave 41 = .ok (.iinc 6 1, 3) := by decide +kernel
theorem dX8_canLeave_44 : decode cX8_canLeave 44 = .ok (.goto (-25), 3) := by decide +kernel
theorem dX8_canLeave_47 : decode cX8_canLeave 47 = .ok (.iconst 0, 1) := by decide +kernel
theorem dX8_canLeave_48 : decode cX8_canLeave 48 = .ok (.istore 6, 2) := by decide +kernel
theorem dX8_canLeave_50 : decode cX8_canLeave 50 = .ok (.iload 6, 2) := by decide +kernel
theorem dX8_canLeave_52 : decode cX8_canLeave 52 = .ok (.aload_n 0, 1) := by decide +kernel
theorem dX8_canLeave_53 : decode cX8_canLeave 53 = .ok (.getfield 108, 3) := by decide +kernel
theorem dX8_canLeave_56 : decode cX8_canLeave 56 = .ok (.if_icmp .ge 97, 3) := by decide +kernel
theorem dX8_canLeave_59 : decode cX8_canLeave 59 = .ok (.iload 6, 2) := by decide +kernel
theorem dX8_canLeave_61 : decode cX8_canLeave 61 = .ok (.iload_n 1, 1) := by decide +kernel
theorem dX8_canLeave_62 : decode cX8_canLeave 62 = .ok (.if_icmp .eq 85, 3) := by decide +kernel
theorem dX8_canLeave_65 : decode cX8_canLeave 65 = .ok (.aload_n 0, 1) := by decide +kernel
theorem dX8_canLeave_66 : decode cX8_canLeave 66 = .ok (.getfield 60, 3) := by decide +kernel
theorem dX8_canLeave_69 : decode cX8_canLeave 69 = .ok (.iload 6, 2) := by decide +kernel
theorem dX8_canLeave_71 : decode cX8_canLeave 71 = .ok (.baload, 1) := by decide +kernel
theorem dX8_canLeave_72 : decode cX8_canLeave 72 = .ok (.ifCond .eq 75, 3) := by decide +kernel
theorem dX8_canLeave_75 : decode cX8_canLeave 75 = .ok (.aload_n 0, 1) := by decide +kernel
theorem dX8_canLeave_76 : decode cX8_canLeave 76 = .ok (.getfield 9, 3) := by decide +kernel
theorem dX8_canLeave_79 : decode cX8_canLeave 79 = .ok (.iload 4, 2) := by decide +kernel
theorem dX8_canLeave_81 : decode cX8_canLeave 81 = .ok (.baload, 1) := by decide +kernel
theorem dX8_canLeave_82 : decode cX8_canLeave 82 = .ok (.ifCond .eq 16, 3) := by decide +kernel
theorem dX8_canLeave_85 : decode cX8_canLeave 85 = .ok (.aload_n 0, 1) := by decide +kernel
theorem dX8_canLeave_86 : decode cX8_canLeave 86 = .ok (.iload 6, 2) := by decide +kernel
theorem dX8_canLeave_88 : decode cX8_canLeave 88 = .ok (.iload_n 1, 1) := by decide +kernel
theorem dX8_canLeave_89 : decode cX8_canLeave 89 = .ok (.invokevirtual 141, 3) := by decide +kernel
theorem dX8_canLeave_92 : decode cX8_canLeave 92 = .ok (.ifCond .ne 6, 3) := by decide +kernel
theorem dX8_canLeave_95 : decode cX8_canLeave 95 = .ok (.goto 52, 3) := by decide +kernel
theorem dX8_canLeave_98 : decode cX8_canLeave 98 = .ok (.aload_n 0, 1) := by decide +kernel
theorem dX8_canLeave_99 : decode cX8_canLeave 99 = .ok (.iload 6, 2) := by decide +kernel
theorem dX8_canLeave_101 : decode cX8_canLeave 101 = .ok (.iload 4, 2) := by decide +kernel
theorem dX8_canLeave_103 : decode cX8_canLeave 103 = .ok (.invokevirtual 144, 3) := by decide +kernel
theorem dX8_canLeave_106 : decode cX8_canLeave 106 = .ok (.istore 7, 2) := by decide +kernel
theorem dX8_canLeave_108 : decode cX8_canLeave 108 = .ok (.iload 7, 2) := by decide +kernel
theorem dX8_canLeave_110 : decode cX8_canLeave 110 = .ok (.iconst (-1), 1) := by decide +kernel
theorem dX8_canLeave_111 : decode cX8_canLeave 111 = .ok (.if_icmp .eq 36, 3) := by decide +kernel
theorem dX8_canLeave_114 : decode cX8_canLeave 114 = .ok (.aload_n 0, 1) := by decide +kernel
theorem dX8_canLeave_115 : decode cX8_canLeave 115 = .ok (.iload_n 3, 1) := by decide +kernel
theorem dX8_canLeave_116 : decode cX8_canLeave 116 = .ok (.iload 5, 2) := by decide +kernel
theorem dX8_canLeave_118 : decode cX8_canLeave 118 = .ok (.aload_n 0, 1) := by decide +kernel
theorem dX8_canLeave_119 : decode cX8_canLeave 119 = .ok (.getfield 63, 3) := by decide +kernel
theorem dX8_canLeave_122 : decode cX8_canLeave 122 = .ok (.bipush 8, 2) := by decide +kernel
theorem dX8_canLeave_124 : decode cX8_canLeave 124 = .ok (.iload 6, 2) := by decide +kernel
theorem dX8_canLeave_126 : decode cX8_canLeave 126 = .ok (.imul, 1) := by decide +kernel
theorem dX8_canLeave_127 : decode cX8_canLeave 127 = .ok (.iload 7, 2) := by decide +kernel
theorem dX8_canLeave_129 : decode cX8_canLeave 129 = .ok (.iadd, 1) := by decide +kernel
theorem dX8_canLeave_130 : decode cX8_canLeave 130 = .ok (.iaload, 1) := by decide +kernel
theorem dX8_canLeave_131 : decode cX8_canLeave 131 = .ok (.aload_n 0, 1) := by decide +kernel
theorem dX8_canLeave_132 : decode cX8_canLeave 132 = .ok (.iload 6, 2) := by decide +kernel
theorem dX8_canLeave_134 : decode cX8_canLeave 134 = .ok (.iload 7, 2) := by decide +kernel
theorem dX8_canLeave_136 : decode cX8_canLeave 136 = .ok (.invokevirtual 134, 3) := by decide +kernel
theorem dX8_canLeave_139 : decode cX8_canLeave 139 = .ok (.invokevirtual 147, 3) := by decide +kernel
theorem dX8_canLeave_142 : decode cX8_canLeave 142 = .ok (.ifCond .ne 5, 3) := by decide +kernel
theorem dX8_canLeave_145 : decode cX8_canLeave 145 = .ok (.iconst 0, 1) := by decide +kernel
theorem dX8_canLeave_146 : decode cX8_canLeave 146 = .ok (.ireturn, 1) := by decide +kernel
theorem dX8_canLeave_147 : decode cX8_canLeave 147 = .ok (.iinc 6 1, 3) := by decide +kernel
theorem dX8_canLeave_150 : decode cX8_canLeave 150 = .ok (.goto (-100), 3) := by decide +kernel
theorem dX8_canLeave_153 : decode cX8_canLeave 153 = .ok (.iconst 1, 1) := by decide +kernel
theorem dX8_canLeave_154 : decode cX8_canLeave 154 = .ok (.ireturn, 1) := by decide +kernel
theorem dX8_comesTo_0 : decode cX8_comesTo 0 = .ok (.aload_n 0, 1) := by decide +kernel
theorem dX8_comesTo_1 : decode cX8_comesTo 1 = .ok (.getfield 63, 3) := by decide +kernel
theorem dX8_comesTo_4 : decode cX8_comesTo 4 = .ok (.bipush 8, 2) := by decide +kernel
theorem dX8_comesTo_6 : decode cX8_comesTo 6 = .ok (.iload_n 1, 1) := by decide +kernel
theorem dX8_comesTo_7 : decode cX8_comesTo 7 = .ok (.imul, 1) := by decide +kernel
theorem dX8_comesTo_8 : decode cX8_comesTo 8 = .ok (.iload_n 2, 1) := by decide +kernel
theorem dX8_comesTo_9 : decode cX8_comesTo 9 = .ok (.iadd, 1) := by decide +kernel
theorem dX8_comesTo_10 : decode cX8_comesTo 10 = .ok (.iconst 1, 1) := by decide +kernel
theorem dX8_comesTo_11 : decode cX8_comesTo 11 = .ok (.isub, 1) := by decide +kernel
theorem dX8_comesTo_12 : decode cX8_comesTo 12 = .ok (.iaload, 1) := by decide +kernel
theorem dX8_comesTo_13 : decode cX8_comesTo 13 = .ok (.aload_n 0, 1) := by decide +kernel
theorem dX8_comesTo_14 : decode cX8_comesTo 14 = .ok (.iload_n 1, 1) := by decide +kernel
theorem dX8_comesTo_15 : decode cX8_comesTo 15 = .ok (.iload_n 2, 1) := by decide +kernel
theorem dX8_comesTo_16 : decode cX8_comesTo 16 = .ok (.iconst 1, 1) := by decide +kernel
theorem dX8_comesTo_17 : decode cX8_comesTo 17 = .ok (.isub, 1) := by decide +kernel
theorem dX8_comesTo_18 : decode cX8_comesTo 18 = .ok (.invokevirtual 134, 3) := by decide +kernel
theorem dX8_comesTo_21 : decode cX8_comesTo 21 = .ok (.iadd, 1) := by decide +kernel
theorem dX8_comesTo_22 : decode cX8_comesTo 22 = .ok (.ireturn, 1) := by decide +kernel
theorem dX8_isStanding_0 : decode cX8_isStanding 0 = .ok (.iconst 1, 1) := by decide +kernel
theorem dX8_isStanding_1 : decode cX8_isStanding 1 = .ok (.istore 4, 2) := by decide +kernel
theorem dX8_isStanding_3 : decode cX8_isStanding 3 = .ok (.iload 4, 2) := by decide +kernel
theorem dX8_isStanding_5 : decode cX8_isStanding 5 = .ok (.aload_n 0, 1) := by decide +kernel
theorem dX8_isStanding_6 : decode cX8_isStanding 6 = .ok (.iload_n 1, 1) := by decide +kernel
theorem dX8_isStanding_7 : decode cX8_isStanding 7 = .ok (.invokevirtual 126, 3) := by decide +kernel
theorem dX8_isStanding_10 : decode cX8_isStanding 10 = .ok (.if_icmp .ge 50, 3) := by decide +kernel
theorem dX8_isStanding_13 : decode cX8_isStanding 13 = .ok (.aload_n 0, 1) := by decide +kernel
theorem dX8_isStanding_14 : decode cX8_isStanding 14 = .ok (.iload_n 1, 1) := by decide +kernel
theorem dX8_isStanding_15 : decode cX8_isStanding 15 = .ok (.iload 4, 2) := by decide +kernel
theorem dX8_isStanding_17 : decode cX8_isStanding 17 = .ok (.invokevirtual 151, 3) := by decide +kernel
theorem dX8_isStanding_20 : decode cX8_isStanding 20 = .ok (.iload_n 2, 1) := by decide +kernel
theorem dX8_isStanding_21 : decode cX8_isStanding 21 = .ok (.if_icmp .ne 33, 3) := by decide +kernel
theorem dX8_isStanding_24 : decode cX8_isStanding 24 = .ok (.iload_n 3, 1) := by decide +kernel
theorem dX8_isStanding_25 : decode cX8_isStanding 25 = .ok (.aload_n 0, 1) := by decide +kernel
theorem dX8_isStanding_26 : decode cX8_isStanding 26 = .ok (.iload_n 1, 1) := by decide +kernel
theorem dX8_isStanding_27 : decode cX8_isStanding 27 = .ok (.iload 4, 2) := by decide +kernel
theorem dX8_isStanding_29 : decode cX8_isStanding 29 = .ok (.invokevirtual 154, 3) := by decide +kernel
theorem dX8_isStanding_32 : decode cX8_isStanding 32 = .ok (.aload_n 0, 1) := by decide +kernel
theorem dX8_isStanding_33 : decode cX8_isStanding 33 = .ok (.getfield 63, 3) := by decide +kernel
theorem dX8_isStanding_36 : decode cX8_isStanding 36 = .ok (.bipush 8, 2) := by decide +kernel
theorem dX8_isStanding_38 : decode cX8_isStanding 38 = .ok (.iload_n 1, 1) := by decide +kernel
theorem dX8_isStanding_39 : decode cX8_isStanding 39 = .ok (.imul, 1) := by decide +kernel
theorem dX8_isStanding_40 : decode cX8_isStanding 40 = .ok (.iload 4, 2) := by decide +kernel
theorem dX8_isStanding_42 : decode cX8_isStanding 42 = .ok (.iadd, 1) := by decide +kernel
theorem dX8_isStanding_43 : decode cX8_isStanding 43 = .ok (.iaload, 1) := by decide +kernel
theorem dX8_isStanding_44 : decode cX8_isStanding 44 = .ok (.iconst 1, 1) := by decide +kernel
theorem dX8_isStanding_45 : decode cX8_isStanding 45 = .ok (.isub, 1) := by decide +kernel
theorem dX8_isStanding_46 : decode cX8_isStanding 46 = .ok (.invokestatic 111, 3) := by decide +kernel
theorem dX8_isStanding_49 : decode cX8_isStanding 49 = .ok (.ifCond .eq 5, 3) := by decide +kernel
theorem dX8_isStanding_52 : decode cX8_isStanding 52 = .ok (.iconst 1, 1) := by decide +kernel
theorem dX8_isStanding_53 : decode cX8_isStanding 53 = .ok (.ireturn, 1) := by decide +kernel
theorem dX8_isStanding_54 : decode cX8_isStanding 54 = .ok (.iinc 4 1, 3) := by decide +kernel
theorem dX8_isStanding_57 : decode cX8_isStanding 57 = .ok (.goto (-54), 3) := by decide +kernel
theorem dX8_isStanding_60 : decode cX8_isStanding 60 = .ok (.iconst 0, 1) := by decide +kernel
theorem dX8_isStanding_61 : decode cX8_isStanding 61 = .ok (.ireturn, 1) := by decide +kernel
theorem dX8_canStand_0 : decode cX8_canStand 0 = .ok (.iconst 1, 1) := by decide +kernel
theorem dX8_canStand_1 : decode cX8_canStand 1 = .ok (.istore 4, 2) := by decide +kernel
theorem dX8_canStand_3 : decode cX8_canStand 3 = .ok (.iconst 0, 1) := by decide +kernel
theorem dX8_canStand_4 : decode cX8_canStand 4 = .ok (.istore 5, 2) := by decide +kernel
theorem dX8_canStand_6 : decode cX8_canStand 6 = .ok (.iload 5, 2) := by decide +kernel
theorem dX8_canStand_8 : decode cX8_canStand 8 = .ok (.aload_n 0, 1) := by decide +kernel
theorem dX8_canStand_9 : decode cX8_canStand 9 = .ok (.getfield 108, 3) := by decide +kernel
theorem dX8_canStand_12 : decode cX8_canStand 12 = .ok (.if_icmp .ge 46, 3) := by decide +kernel
theorem dX8_canStand_15 : decode cX8_canStand 15 = .ok (.iload 4, 2) := by decide +kernel
theorem dX8_canStand_17 : decode cX8_canStand 17 = .ok (.iload 5, 2) := by decide +kernel
theorem dX8_canStand_19 : decode cX8_canStand 19 = .ok (.iload_n 1, 1) := by decide +kernel
theorem dX8_canStand_20 : decode cX8_canStand 20 = .ok (.if_icmp .eq 28, 3) := by decide +kernel
theorem dX8_canStand_23 : decode cX8_canStand 23 = .ok (.aload_n 0, 1) := by decide +kernel
theorem dX8_canStand_24 : decode cX8_canStand 24 = .ok (.getfield 60, 3) := by decide +kernel
theorem dX8_canStand_27 : decode cX8_canStand 27 = .ok (.iload 5, 2) := by decide +kernel
theorem dX8_canStand_29 : decode cX8_canStand 29 = .ok (.baload, 1) := by decide +kernel
theorem dX8_canStand_30 : decode cX8_canStand 30 = .ok (.ifCond .eq 18, 3) := by decide +kernel
theorem dX8_canStand_33 : decode cX8_canStand 33 = .ok (.aload_n 0, 1) := by decide +kernel
theorem dX8_canStand_34 : decode cX8_canStand 34 = .ok (.iload 5, 2) := by decide +kernel
theorem dX8_canStand_36 : decode cX8_canStand 36 = .ok (.iload_n 2, 1) := by decide +kernel
theorem dX8_canStand_37 : decode cX8_canStand 37 = .ok (.iload_n 3, 1) := by decide +kernel
theorem dX8_canStand_38 : decode cX8_canStand 38 = .ok (.invokevirtual 157, 3) := by decide +kernel
theorem dX8_canStand_41 : decode cX8_canStand 41 = .ok (.ifCond .eq 7, 3) := by decide +kernel
theorem dX8_canStand_44 : decode cX8_canStand 44 = .ok (.iconst 1, 1) := by decide +kernel
theorem dX8_canStand_45 : decode cX8_canStand 45 = .ok (.goto 4, 3) := by decide +kernel
theorem dX8_canStand_48 : decode cX8_canStand 48 = .ok (.iconst 0, 1) := by decide +kernel
theorem dX8_canStand_49 : decode cX8_canStand 49 = .ok (.iadd, 1) := by decide +kernel
theorem dX8_canStand_50 : decode cX8_canStand 50 = .ok (.istore 4, 2) := by decide +kernel
theorem dX8_canStand_52 : decode cX8_canStand 52 = .ok (.iinc 5 1, 3) := by decide +kernel
theorem dX8_canStand_55 : decode cX8_canStand 55 = .ok (.goto (-49), 3) := by decide +kernel
theorem dX8_canStand_58 : decode cX8_canStand 58 = .ok (.iload 4, 2) := by decide +kernel
theorem dX8_canStand_60 : decode cX8_canStand 60 = .ok (.aload_n 0, 1) := by decide +kernel
theorem dX8_canStand_61 : decode cX8_canStand 61 = .ok (.getfield 17, 3) := by decide +kernel
theorem dX8_canStand_64 : decode cX8_canStand 64 = .ok (.iload_n 2, 1) := by decide +kernel
theorem dX8_canStand_65 : decode cX8_canStand 65 = .ok (.iaload, 1) := by decide +kernel
theorem dX8_canStand_66 : decode cX8_canStand 66 = .ok (.if_icmp .gt 7, 3) := by decide +kernel
theorem dX8_canStand_69 : decode cX8_canStand 69 = .ok (.iconst 1, 1) := by decide +kernel
theorem dX8_canStand_70 : decode cX8_canStand 70 = .ok (.goto 4, 3) := by decide +kernel
theorem dX8_canStand_73 : decode cX8_canStand 73 = .ok (.iconst 0, 1) := by decide +kernel
theorem dX8_canStand_74 : decode cX8_canStand 74 = .ok (.ireturn, 1) := by decide +kernel
theorem dX8_seeks_0 : decode cX8_seeks 0 = .ok (.aload_n 0, 1) := by decide +kernel
theorem dX8_seeks_1 : decode cX8_seeks 1 = .ok (.iload_n 1, 1) := by decide +kernel
theorem dX8_seeks_2 : decode cX8_seeks 2 = .ok (.invokevirtual 126, 3) := by decide +kernel
theorem dX8_seeks_5 : decode cX8_seeks 5 = .ok (.istore_n 2, 1) := by decide +kernel
theorem dX8_seeks_6 : decode cX8_seeks 6 = .ok (.iconst 0, 1) := by decide +kernel
theorem dX8_seeks_7 : decode cX8_seeks 7 = .ok (.istore_n 3, 1) := by decide +kernel
theorem dX8_seeks_8 : decode cX8_seeks 8 = .ok (.iload_n 3, 1) := by decide +kernel
theorem dX8_seeks_9 : decode cX8_seeks 9 = .ok (.sipush 1920, 3) := by decide +kernel
theorem dX8_seeks_12 : decode cX8_seeks 12 = .ok (.if_icmp .ge 16, 3) := by decide +kernel
theorem dX8_seeks_15 : decode cX8_seeks 15 = .ok (.aload_n 0, 1) := by decide +kernel
theorem dX8_seeks_16 : decode cX8_seeks 16 = .ok (.getfield 69, 3) := by decide +kernel
theorem dX8_seeks_19 : decode cX8_seeks 19 = .ok (.iload_n 3, 1) := by decide +kernel
theorem dX8_seeks_20 : decode cX8_seeks 20 = .ok (.iconst 0, 1) := by decide +kernel
theorem dX8_seeks_21 : decode cX8_seeks 21 = .ok (.bastore, 1) := by decide +kernel
theorem dX8_seeks_22 : decode cX8_seeks 22 = .ok (.iinc 3 1, 3) := by decide +kernel
theorem dX8_seeks_25 : decode cX8_seeks 25 = .ok (.goto (-17), 3) := by decide +kernel
theorem dX8_seeks_28 : decode cX8_seeks 28 = .ok (.iconst 0, 1) := by decide +kernel
theorem dX8_seeks_29 : decode cX8_seeks 29 = .ok (.istore_n 3, 1) := by decide +kernel
theorem dX8_seeks_30 : decode cX8_seeks 30 = .ok (.iload_n 3, 1) := by decide +kernel
theorem dX8_seeks_31 : decode cX8_seeks 31 = .ok (.iload_n 2, 1) := by decide +kernel
theorem dX8_seeks_32 : decode cX8_seeks 32 = .ok (.if_icmp .ge 151, 3) := by decide +kernel
theorem dX8_seeks_35 : decode cX8_seeks 35 = .ok (.iconst 0, 1) := by decide +kernel
theorem dX8_seeks_36 : decode cX8_seeks 36 = .ok (.istore 4, 2) := by decide +kernel
theorem dX8_seeks_38 : decode cX8_seeks 38 = .ok (.iconst 0, 1) := by decide +kernel
theorem dX8_seeks_39 : decode cX8_seeks 39 = .ok (.istore 5, 2) := by decide +kernel
theorem dX8_seeks_41 : decode cX8_seeks 41 = .ok (.iload 5, 2) := by decide +kernel
end
section
theorem dX8_seeks_43 : decode cX8_seeks 43 = .ok (.sipush 240, 3) := by decide +kernel
theorem dX8_seeks_46 : decode cX8_seeks 46 = .ok (.if_icmp .ge 131, 3) := by decide +kernel
theorem dX8_seeks_49 : decode cX8_seeks 49 = .ok (.iload_n 3, 1) := by decide +kernel
theorem dX8_seeks_50 : decode cX8_seeks 50 = .ok (.ifCond .ne 24, 3) := by decide +kernel
theorem dX8_seeks_53 : decode cX8_seeks 53 = .ok (.iload 5, 2) := by decide +kernel
theorem dX8_seeks_55 : decode cX8_seeks 55 = .ok (.aload_n 0, 1) := by decide +kernel
theorem dX8_seeks_56 : decode cX8_seeks 56 = .ok (.getfield 45, 3) := by decide +kernel
theorem dX8_seeks_59 : decode cX8_seeks 59 = .ok (.iload_n 1, 1) := by decide +kernel
theorem dX8_seeks_60 : decode cX8_seeks 60 = .ok (.iaload, 1) := by decide +kernel
theorem dX8_seeks_61 : decode cX8_seeks 61 = .ok (.if_icmp .lt 7, 3) := by decide +kernel
theorem dX8_seeks_64 : decode cX8_seeks 64 = .ok (.iconst 1, 1) := by decide +kernel
theorem dX8_seeks_65 : decode cX8_seeks 65 = .ok (.goto 4, 3) := by decide +kernel
theorem dX8_seeks_68 : decode cX8_seeks 68 = .ok (.iconst 0, 1) := by decide +kernel
theorem dX8_seeks_69 : decode cX8_seeks 69 = .ok (.istore 4, 2) := by decide +kernel
theorem dX8_seeks_71 : decode cX8_seeks 71 = .ok (.goto 49, 3) := by decide +kernel
theorem dX8_seeks_74 : decode cX8_seeks 74 = .ok (.aload_n 0, 1) := by decide +kernel
theorem dX8_seeks_75 : decode cX8_seeks 75 = .ok (.getfield 69, 3) := by decide +kernel
theorem dX8_seeks_78 : decode cX8_seeks 78 = .ok (.sipush 240, 3) := by decide +kernel
theorem dX8_seeks_81 : decode cX8_seeks 81 = .ok (.iload_n 3, 1) := by decide +kernel
theorem dX8_seeks_82 : decode cX8_seeks 82 = .ok (.imul, 1) := by decide +kernel
theorem dX8_seeks_83 : decode cX8_seeks 83 = .ok (.iload 5, 2) := by decide +kernel
theorem dX8_seeks_85 : decode cX8_seeks 85 = .ok (.iadd, 1) := by decide +kernel
theorem dX8_seeks_86 : decode cX8_seeks 86 = .ok (.baload, 1) := by decide +kernel
theorem dX8_seeks_87 : decode cX8_seeks 87 = .ok (.ifCond .ne 26, 3) := by decide +kernel
theorem dX8_seeks_90 : decode cX8_seeks 90 = .ok (.iload 4, 2) := by decide +kernel
theorem dX8_seeks_92 : decode cX8_seeks 92 = .ok (.ifCond .eq 25, 3) := by decide +kernel
theorem dX8_seeks_95 : decode cX8_seeks 95 = .ok (.aload_n 0, 1) := by decide +kernel
theorem dX8_seeks_96 : decode cX8_seeks 96 = .ok (.iload_n 1, 1) := by decide +kernel
theorem dX8_seeks_97 : decode cX8_seeks 97 = .ok (.aload_n 0, 1) := by decide +kernel
theorem dX8_seeks_98 : decode cX8_seeks 98 = .ok (.iload_n 1, 1) := by decide +kernel
theorem dX8_seeks_99 : decode cX8_seeks 99 = .ok (.iload_n 3, 1) := by decide +kernel
theorem dX8_seeks_100 : decode cX8_seeks 100 = .ok (.invokevirtual 151, 3) := by decide +kernel
theorem dX8_seeks_103 : decode cX8_seeks 103 = .ok (.iload 5, 2) := by decide +kernel
theorem dX8_seeks_105 : decode cX8_seeks 105 = .ok (.iconst 1, 1) := by decide +kernel
theorem dX8_seeks_106 : decode cX8_seeks 106 = .ok (.isub, 1) := by decide +kernel
theorem dX8_seeks_107 : decode cX8_seeks 107 = .ok (.invokevirtual 160, 3) := by decide +kernel
theorem dX8_seeks_110 : decode cX8_seeks 110 = .ok (.ifCond .eq 7, 3) := by decide +kernel
theorem dX8_seeks_113 : decode cX8_seeks 113 = .ok (.iconst 1, 1) := by decide +kernel
theorem dX8_seeks_114 : decode cX8_seeks 114 = .ok (.goto 4, 3) := by decide +kernel
theorem dX8_seeks_117 : decode cX8_seeks 117 = .ok (.iconst 0, 1) := by decide +kernel
theorem dX8_seeks_118 : decode cX8_seeks 118 = .ok (.istore 4, 2) := by decide +kernel
theorem dX8_seeks_120 : decode cX8_seeks 120 = .ok (.iload 5, 2) := by decide +kernel
theorem dX8_seeks_122 : decode cX8_seeks 122 = .ok (.aload_n 0, 1) := by decide +kernel
theorem dX8_seeks_123 : decode cX8_seeks 123 = .ok (.iload_n 1, 1) := by decide +kernel
theorem dX8_seeks_124 : decode cX8_seeks 124 = .ok (.iload_n 3, 1) := by decide +kernel
theorem dX8_seeks_125 : decode cX8_seeks 125 = .ok (.invokevirtual 134, 3) := by decide +kernel
theorem dX8_seeks_128 : decode cX8_seeks 128 = .ok (.iadd, 1) := by decide +kernel
theorem dX8_seeks_129 : decode cX8_seeks 129 = .ok (.istore 6, 2) := by decide +kernel
theorem dX8_seeks_131 : decode cX8_seeks 131 = .ok (.iload 4, 2) := by decide +kernel
theorem dX8_seeks_133 : decode cX8_seeks 133 = .ok (.ifCond .eq 38, 3) := by decide +kernel
theorem dX8_seeks_136 : decode cX8_seeks 136 = .ok (.iload 6, 2) := by decide +kernel
theorem dX8_seeks_138 : decode cX8_seeks 138 = .ok (.sipush 240, 3) := by decide +kernel
theorem dX8_seeks_141 : decode cX8_seeks 141 = .ok (.if_icmp .ge 30, 3) := by decide +kernel
theorem dX8_seeks_144 : decode cX8_seeks 144 = .ok (.aload_n 0, 1) := by decide +kernel
theorem dX8_seeks_145 : decode cX8_seeks 145 = .ok (.iload_n 1, 1) := by decide +kernel
theorem dX8_seeks_146 : decode cX8_seeks 146 = .ok (.iload_n 3, 1) := by decide +kernel
theorem dX8_seeks_147 : decode cX8_seeks 147 = .ok (.iload 5, 2) := by decide +kernel
theorem dX8_seeks_149 : decode cX8_seeks 149 = .ok (.invokevirtual 163, 3) := by decide +kernel
theorem dX8_seeks_152 : decode cX8_seeks 152 = .ok (.ifCond .eq 19, 3) := by decide +kernel
theorem dX8_seeks_155 : decode cX8_seeks 155 = .ok (.aload_n 0, 1) := by decide +kernel
theorem dX8_seeks_156 : decode cX8_seeks 156 = .ok (.getfield 69, 3) := by decide +kernel
theorem dX8_seeks_159 : decode cX8_seeks 159 = .ok (.sipush 240, 3) := by decide +kernel
theorem dX8_seeks_162 : decode cX8_seeks 162 = .ok (.iload_n 3, 1) := by decide +kernel
theorem dX8_seeks_163 : decode cX8_seeks 163 = .ok (.iconst 1, 1) := by decide +kernel
theorem dX8_seeks_164 : decode cX8_seeks 164 = .ok (.iadd, 1) := by decide +kernel
theorem dX8_seeks_165 : decode cX8_seeks 165 = .ok (.imul, 1) := by decide +kernel
theorem dX8_seeks_166 : decode cX8_seeks 166 = .ok (.iload 6, 2) := by decide +kernel
theorem dX8_seeks_168 : decode cX8_seeks 168 = .ok (.iadd, 1) := by decide +kernel
theorem dX8_seeks_169 : decode cX8_seeks 169 = .ok (.iconst 1, 1) := by decide +kernel
theorem dX8_seeks_170 : decode cX8_seeks 170 = .ok (.bastore, 1) := by decide +kernel
theorem dX8_seeks_171 : decode cX8_seeks 171 = .ok (.iinc 5 1, 3) := by decide +kernel
theorem dX8_seeks_174 : decode cX8_seeks 174 = .ok (.goto (-133), 3) := by decide +kernel
theorem dX8_seeks_177 : decode cX8_seeks 177 = .ok (.iinc 3 1, 3) := by decide +kernel
theorem dX8_seeks_180 : decode cX8_seeks 180 = .ok (.goto (-150), 3) := by decide +kernel
theorem dX8_seeks_183 : decode cX8_seeks 183 = .ok (.iconst 0, 1) := by decide +kernel
theorem dX8_seeks_184 : decode cX8_seeks 184 = .ok (.istore_n 3, 1) := by decide +kernel
theorem dX8_seeks_185 : decode cX8_seeks 185 = .ok (.iload_n 3, 1) := by decide +kernel
theorem dX8_seeks_186 : decode cX8_seeks 186 = .ok (.aload_n 0, 1) := by decide +kernel
theorem dX8_seeks_187 : decode cX8_seeks 187 = .ok (.getfield 48, 3) := by decide +kernel
theorem dX8_seeks_190 : decode cX8_seeks 190 = .ok (.iload_n 1, 1) := by decide +kernel
theorem dX8_seeks_191 : decode cX8_seeks 191 = .ok (.iaload, 1) := by decide +kernel
theorem dX8_seeks_192 : decode cX8_seeks 192 = .ok (.if_icmp .gt 24, 3) := by decide +kernel
theorem dX8_seeks_195 : decode cX8_seeks 195 = .ok (.aload_n 0, 1) := by decide +kernel
theorem dX8_seeks_196 : decode cX8_seeks 196 = .ok (.getfield 69, 3) := by decide +kernel
theorem dX8_seeks_199 : decode cX8_seeks 199 = .ok (.sipush 240, 3) := by decide +kernel
theorem dX8_seeks_202 : decode cX8_seeks 202 = .ok (.iload_n 2, 1) := by decide +kernel
theorem dX8_seeks_203 : decode cX8_seeks 203 = .ok (.imul, 1) := by decide +kernel
theorem dX8_seeks_204 : decode cX8_seeks 204 = .ok (.iload_n 3, 1) := by decide +kernel
theorem dX8_seeks_205 : decode cX8_seeks 205 = .ok (.iadd, 1) := by decide +kernel
theorem dX8_seeks_206 : decode cX8_seeks 206 = .ok (.baload, 1) := by decide +kernel
theorem dX8_seeks_207 : decode cX8_seeks 207 = .ok (.ifCond .ne 9, 3) := by decide +kernel
theorem dX8_seeks_210 : decode cX8_seeks 210 = .ok (.iinc 3 1, 3) := by decide +kernel
theorem dX8_seeks_213 : decode cX8_seeks 213 = .ok (.goto (-28), 3) := by decide +kernel
theorem dX8_seeks_216 : decode cX8_seeks 216 = .ok (.iload_n 3, 1) := by decide +kernel
theorem dX8_seeks_217 : decode cX8_seeks 217 = .ok (.aload_n 0, 1) := by decide +kernel
theorem dX8_seeks_218 : decode cX8_seeks 218 = .ok (.getfield 48, 3) := by decide +kernel
theorem dX8_seeks_221 : decode cX8_seeks 221 = .ok (.iload_n 1, 1) := by decide +kernel
theorem dX8_seeks_222 : decode cX8_seeks 222 = .ok (.iaload, 1) := by decide +kernel
theorem dX8_seeks_223 : decode cX8_seeks 223 = .ok (.if_icmp .le 5, 3) := by decide +kernel
theorem dX8_seeks_226 : decode cX8_seeks 226 = .ok (.iconst 0, 1) := by decide +kernel
theorem dX8_seeks_227 : decode cX8_seeks 227 = .ok (.ireturn, 1) := by decide +kernel
theorem dX8_seeks_228 : decode cX8_seeks 228 = .ok (.aload_n 0, 1) := by decide +kernel
theorem dX8_seeks_229 : decode cX8_seeks 229 = .ok (.getfield 72, 3) := by decide +kernel
theorem dX8_seeks_232 : decode cX8_seeks 232 = .ok (.iload_n 2, 1) := by decide +kernel
theorem dX8_seeks_233 : decode cX8_seeks 233 = .ok (.iload_n 3, 1) := by decide +kernel
theorem dX8_seeks_234 : decode cX8_seeks 234 = .ok (.iastore, 1) := by decide +kernel
theorem dX8_seeks_235 : decode cX8_seeks 235 = .ok (.iload_n 2, 1) := by decide +kernel
theorem dX8_seeks_236 : decode cX8_seeks 236 = .ok (.iconst 1, 1) := by decide +kernel
theorem dX8_seeks_237 : decode cX8_seeks 237 = .ok (.isub, 1) := by decide +kernel
theorem dX8_seeks_238 : decode cX8_seeks 238 = .ok (.istore 4, 2) := by decide +kernel
theorem dX8_seeks_240 : decode cX8_seeks 240 = .ok (.iload 4, 2) := by decide +kernel
theorem dX8_seeks_242 : decode cX8_seeks 242 = .ok (.ifCond .lt 59, 3) := by decide +kernel
theorem dX8_seeks_245 : decode cX8_seeks 245 = .ok (.iload_n 3, 1) := by decide +kernel
theorem dX8_seeks_246 : decode cX8_seeks 246 = .ok (.aload_n 0, 1) := by decide +kernel
theorem dX8_seeks_247 : decode cX8_seeks 247 = .ok (.iload_n 1, 1) := by decide +kernel
theorem dX8_seeks_248 : decode cX8_seeks 248 = .ok (.iload 4, 2) := by decide +kernel
theorem dX8_seeks_250 : decode cX8_seeks 250 = .ok (.invokevirtual 134, 3) := by decide +kernel
theorem dX8_seeks_253 : decode cX8_seeks 253 = .ok (.isub, 1) := by decide +kernel
theorem dX8_seeks_254 : decode cX8_seeks 254 = .ok (.istore 5, 2) := by decide +kernel
theorem dX8_seeks_256 : decode cX8_seeks 256 = .ok (.aload_n 0, 1) := by decide +kernel
theorem dX8_seeks_257 : decode cX8_seeks 257 = .ok (.getfield 72, 3) := by decide +kernel
theorem dX8_seeks_260 : decode cX8_seeks 260 = .ok (.iload 4, 2) := by decide +kernel
theorem dX8_seeks_262 : decode cX8_seeks 262 = .ok (.iload 5, 2) := by decide +kernel
theorem dX8_seeks_264 : decode cX8_seeks 264 = .ok (.iastore, 1) := by decide +kernel
theorem dX8_seeks_265 : decode cX8_seeks 265 = .ok (.iload 5, 2) := by decide +kernel
theorem dX8_seeks_267 : decode cX8_seeks 267 = .ok (.istore_n 3, 1) := by decide +kernel
theorem dX8_seeks_268 : decode cX8_seeks 268 = .ok (.iload 4, 2) := by decide +kernel
theorem dX8_seeks_270 : decode cX8_seeks 270 = .ok (.ifCond .le 25, 3) := by decide +kernel
theorem dX8_seeks_273 : decode cX8_seeks 273 = .ok (.aload_n 0, 1) := by decide +kernel
theorem dX8_seeks_274 : decode cX8_seeks 274 = .ok (.getfield 69, 3) := by decide +kernel
theorem dX8_seeks_277 : decode cX8_seeks 277 = .ok (.sipush 240, 3) := by decide +kernel
theorem dX8_seeks_280 : decode cX8_seeks 280 = .ok (.iload 4, 2) := by decide +kernel
theorem dX8_seeks_282 : decode cX8_seeks 282 = .ok (.imul, 1) := by decide +kernel
theorem dX8_seeks_283 : decode cX8_seeks 283 = .ok (.iload_n 3, 1) := by decide +kernel
theorem dX8_seeks_284 : decode cX8_seeks 284 = .ok (.iadd, 1) := by decide +kernel
theorem dX8_seeks_285 : decode cX8_seeks 285 = .ok (.baload, 1) := by decide +kernel
theorem dX8_seeks_286 : decode cX8_seeks 286 = .ok (.ifCond .ne 9, 3) := by decide +kernel
theorem dX8_seeks_289 : decode cX8_seeks 289 = .ok (.iinc 3 (-1), 3) := by decide +kernel
theorem dX8_seeks_292 : decode cX8_seeks 292 = .ok (.goto (-24), 3) := by decide +kernel
theorem dX8_seeks_295 : decode cX8_seeks 295 = .ok (.iinc 4 (-1), 3) := by decide +kernel
theorem dX8_seeks_298 : decode cX8_seeks 298 = .ok (.goto (-58), 3) := by decide +kernel
theorem dX8_seeks_301 : decode cX8_seeks 301 = .ok (.iconst 1, 1) := by decide +kernel
theorem dX8_seeks_302 : decode cX8_seeks 302 = .ok (.ireturn, 1) := by decide +kernel
theorem dX8_find_0 : decode cX8_find 0 = .ok (.aload_n 0, 1) := by decide +kernel
theorem dX8_find_1 : decode cX8_find 1 = .ok (.iload_n 1, 1) := by decide +kernel
theorem dX8_find_2 : decode cX8_find 2 = .ok (.invokevirtual 118, 3) := by decide +kernel
theorem dX8_find_5 : decode cX8_find 5 = .ok (.ifCond .eq 24, 3) := by decide +kernel
theorem dX8_find_8 : decode cX8_find 8 = .ok (.aload_n 0, 1) := by decide +kernel
theorem dX8_find_9 : decode cX8_find 9 = .ok (.iload_n 1, 1) := by decide +kernel
theorem dX8_find_10 : decode cX8_find 10 = .ok (.invokevirtual 166, 3) := by decide +kernel
theorem dX8_find_13 : decode cX8_find 13 = .ok (.ifCond .eq 16, 3) := by decide +kernel
theorem dX8_find_16 : decode cX8_find 16 = .ok (.aload_n 0, 1) := by decide +kernel
theorem dX8_find_17 : decode cX8_find 17 = .ok (.getfield 72, 3) := by decide +kernel
theorem dX8_find_20 : decode cX8_find 20 = .ok (.aload_n 0, 1) := by decide +kernel
theorem dX8_find_21 : decode cX8_find 21 = .ok (.iload_n 1, 1) := by decide +kernel
theorem dX8_find_22 : decode cX8_find 22 = .ok (.invokevirtual 126, 3) := by decide +kernel
theorem dX8_find_25 : decode cX8_find 25 = .ok (.iaload, 1) := by decide +kernel
theorem dX8_find_26 : decode cX8_find 26 = .ok (.goto 4, 3) := by decide +kernel
theorem dX8_find_29 : decode cX8_find 29 = .ok (.iconst (-1), 1) := by decide +kernel
theorem dX8_find_30 : decode cX8_find 30 = .ok (.ireturn, 1) := by decide +kernel
theorem dX8_give_0 : decode cX8_give 0 = .ok (.aload_n 0, 1) := by decide +kernel
theorem dX8_give_1 : decode cX8_give 1 = .ok (.iload_n 1, 1) := by decide +kernel
theorem dX8_give_2 : decode cX8_give 2 = .ok (.invokevirtual 118, 3) := by decide +kernel
theorem dX8_give_5 : decode cX8_give 5 = .ok (.ifCond .eq 11, 3) := by decide +kernel
theorem dX8_give_8 : decode cX8_give 8 = .ok (.aload_n 0, 1) := by decide +kernel
theorem dX8_give_9 : decode cX8_give 9 = .ok (.iload_n 1, 1) := by decide +kernel
theorem dX8_give_10 : decode cX8_give 10 = .ok (.invokevirtual 166, 3) := by decide +kernel
theorem dX8_give_13 : decode cX8_give 13 = .ok (.ifCond .ne 5, 3) := by decide +kernel
theorem dX8_give_16 : decode cX8_give 16 = .ok (.iconst 0, 1) := by decide +kernel
theorem dX8_give_17 : decode cX8_give 17 = .ok (.ireturn, 1) := by decide +kernel
theorem dX8_give_18 : decode cX8_give 18 = .ok (.aload_n 0, 1) := by decide +kernel
theorem dX8_give_19 : decode cX8_give 19 = .ok (.getfield 60, 3) := by decide +kernel
theorem dX8_give_22 : decode cX8_give 22 = .ok (.iload_n 1, 1) := by decide +kernel
theorem dX8_give_23 : decode cX8_give 23 = .ok (.iconst 1, 1) := by decide +kernel
theorem dX8_give_24 : decode cX8_give 24 = .ok (.bastore, 1) := by decide +kernel
theorem dX8_give_25 : decode cX8_give 25 = .ok (.iconst 0, 1) := by decide +kernel
theorem dX8_give_26 : decode cX8_give 26 = .ok (.istore_n 2, 1) := by decide +kernel
theorem dX8_give_27 : decode cX8_give 27 = .ok (.iload_n 2, 1) := by decide +kernel
theorem dX8_give_28 : decode cX8_give 28 = .ok (.aload_n 0, 1) := by decide +kernel
theorem dX8_give_29 : decode cX8_give 29 = .ok (.iload_n 1, 1) := by decide +kernel
theorem dX8_give_30 : decode cX8_give 30 = .ok (.invokevirtual 126, 3) := by decide +kernel
theorem dX8_give_33 : decode cX8_give 33 = .ok (.if_icmp .gt 26, 3) := by decide +kernel
theorem dX8_give_36 : decode cX8_give 36 = .ok (.aload_n 0, 1) := by decide +kernel
theorem dX8_give_37 : decode cX8_give 37 = .ok (.getfield 63, 3) := by decide +kernel
theorem dX8_give_40 : decode cX8_give 40 = .ok (.bipush 8, 2) := by decide +kernel
theorem dX8_give_42 : decode cX8_give 42 = .ok (.iload_n 1, 1) := by decide +kernel
theorem dX8_give_43 : decode cX8_give 43 = .ok (.imul, 1) := by decide +kernel
theorem dX8_give_44 : decode cX8_give 44 = .ok (.iload_n 2, 1) := by decide +kernel
theorem dX8_give_45 : decode cX8_give 45 = .ok (.iadd, 1) := by decide +kernel
theorem dX8_give_46 : decode cX8_give 46 = .ok (.aload_n 0, 1) := by decide +kernel
theorem dX8_give_47 : decode cX8_give 47 = .ok (.getfield 72, 3) := by decide +kernel
theorem dX8_give_50 : decode cX8_give 50 = .ok (.iload_n 2, 1) := by decide +kernel
theorem dX8_give_51 : decode cX8_give 51 = .ok (.iaload, 1) := by decide +kernel
theorem dX8_give_52 : decode cX8_give 52 = .ok (.iastore, 1) := by decide +kernel
theorem dX8_give_53 : decode cX8_give 53 = .ok (.iinc 2 1, 3) := by decide +kernel
theorem dX8_give_56 : decode cX8_give 56 = .ok (.goto (-29), 3) := by decide +kernel
theorem dX8_give_59 : decode cX8_give 59 = .ok (.iconst 1, 1) := by decide +kernel
theorem dX8_give_60 : decode cX8_give 60 = .ok (.ireturn, 1) := by decide +kernel
theorem dX8_drop_0 : decode cX8_drop 0 = .ok (.aload_n 0, 1) := by decide +kernel
theorem dX8_drop_1 : decode cX8_drop 1 = .ok (.iload_n 1, 1) := by decide +kernel
theorem dX8_drop_2 : decode cX8_drop 2 = .ok (.invokevirtual 118, 3) := by decide +kernel
theorem dX8_drop_5 : decode cX8_drop 5 = .ok (.ifCond .eq 12, 3) := by decide +kernel
theorem dX8_drop_8 : decode cX8_drop 8 = .ok (.aload_n 0, 1) := by decide +kernel
theorem dX8_drop_9 : decode cX8_drop 9 = .ok (.getfield 60, 3) := by decide +kernel
theorem dX8_drop_12 : decode cX8_drop 12 = .ok (.iload_n 1, 1) := by decide +kernel
theorem dX8_drop_13 : decode cX8_drop 13 = .ok (.baload, 1) := by decide +kernel
theorem dX8_drop_14 : decode cX8_drop 14 = .ok (.ifCond .ne 5, 3) := by decide +kernel
theorem dX8_drop_17 : decode cX8_drop 17 = .ok (.iconst 0, 1) := by decide +kernel
theorem dX8_drop_18 : decode cX8_drop 18 = .ok (.ireturn, 1) := by decide +kernel
theorem dX8_drop_19 : decode cX8_drop 19 = .ok (.aload_n 0, 1) := by decide +kernel
theorem dX8_drop_20 : decode cX8_drop 20 = .ok (.getfield 60, 3) := by decide +kernel
theorem dX8_drop_23 : decode cX8_drop 23 = .ok (.iload_n 1, 1) := by decide +kernel
theorem dX8_drop_24 : decode cX8_drop 24 = .ok (.iconst 0, 1) := by decide +kernel
theorem dX8_drop_25 : decode cX8_drop 25 = .ok (.bastore, 1) := by decide +kernel
theorem dX8_drop_26 : decode cX8_drop 26 = .ok (.iconst 1, 1) := by decide +kernel
theorem dX8_drop_27 : decode cX8_drop 27 = .ok (.ireturn, 1) := by decide +kernel
theorem dX8_isAhead_0 : decode cX8_isAhead 0 = .ok (.aload_n 0, 1) := by decide +kernel
theorem dX8_isAhead_1 : decode cX8_isAhead 1 = .ok (.getfield 54, 3) := by decide +kernel
theorem dX8_isAhead_4 : decode cX8_isAhead 4 = .ok (.iload_n 1, 1) := by decide +kernel
theorem dX8_isAhead_5 : decode cX8_isAhead 5 = .ok (.iaload, 1) := by decide +kernel
theorem dX8_isAhead_6 : decode cX8_isAhead 6 = .ok (.aload_n 0, 1) := by decide +kernel
theorem dX8_isAhead_7 : decode cX8_isAhead 7 = .ok (.getfield 54, 3) := by decide +kernel
theorem dX8_isAhead_10 : decode cX8_isAhead 10 = .ok (.iload_n 2, 1) := by decide +kernel
theorem dX8_isAhead_11 : decode cX8_isAhead 11 = .ok (.iaload, 1) := by decide +kernel
theorem dX8_isAhead_12 : decode cX8_isAhead 12 = .ok (.if_icmp .lt 23, 3) := by decide +kernel
theorem dX8_isAhead_15 : decode cX8_isAhead 15 = .ok (.aload_n 0, 1) := by decide +kernel
theorem dX8_isAhead_16 : decode cX8_isAhead 16 = .ok (.getfield 54, 3) := by decide +kernel
theorem dX8_isAhead_19 : decode cX8_isAhead 19 = .ok (.iload_n 1, 1) := by decide +kernel
theorem dX8_isAhead_20 : decode cX8_isAhead 20 = .ok (.iaload, 1) := by decide +kernel
theorem dX8_isAhead_21 : decode cX8_isAhead 21 = .ok (.aload_n 0, 1) := by decide +kernel
theorem dX8_isAhead_22 : decode cX8_isAhead 22 = .ok (.getfield 54, 3) := by decide +kernel
theorem dX8_isAhead_25 : decode cX8_isAhead 25 = .ok (.iload_n 2, 1) := by decide +kernel
theorem dX8_isAhead_26 : decode cX8_isAhead 26 = .ok (.iaload, 1) := by decide +kernel
theorem dX8_isAhead_27 : decode cX8_isAhead 27 = .ok (.if_icmp .ne 12, 3) := by decide +kernel
theorem dX8_isAhead_30 : decode cX8_isAhead 30 = .ok (.iload_n 1, 1) := by decide +kernel
theorem dX8_isAhead_31 : decode cX8_isAhead 31 = .ok (.iload_n 2, 1) := by decide +kernel
theorem dX8_isAhead_32 : decode cX8_isAhead 32 = .ok (.if_icmp .ge 7, 3) := by decide +kernel
theorem dX8_isAhead_35 : decode cX8_isAhead 35 = .ok (.iconst 1, 1) := by decide +kernel
theorem dX8_isAhead_36 : decode cX8_isAhead 36 = .ok (.goto 4, 3) := by decide +kernel
theorem dX8_isAhead_39 : decode cX8_isAhead 39 = .ok (.iconst 0, 1) := by decide +kernel
theorem dX8_isAhead_40 : decode cX8_isAhead 40 = .ok (.ireturn, 1) := by decide +kernel
theorem dX8_ranks_0 : decode cX8_ranks 0 = .ok (.iconst 0, 1) := by decide +kernel
theorem dX8_ranks_1 : decode cX8_ranks 1 = .ok (.istore_n 1, 1) := by decide +kernel
theorem dX8_ranks_2 : decode cX8_ranks 2 = .ok (.iload_n 1, 1) := by decide +kernel
theorem dX8_ranks_3 : decode cX8_ranks 3 = .ok (.aload_n 0, 1) := by decide +kernel
theorem dX8_ranks_4 : decode cX8_ranks 4 = .ok (.getfield 108, 3) := by decide +kernel
theorem dX8_ranks_7 : decode cX8_ranks 7 = .ok (.if_icmp .ge 58, 3) := by decide +kernel
theorem dX8_ranks_10 : decode cX8_ranks 10 = .ok (.iload_n 1, 1) := by decide +kernel
theorem dX8_ranks_11 : decode cX8_ranks 11 = .ok (.istore_n 2, 1) := by decide +kernel
theorem dX8_ranks_12 : decode cX8_ranks 12 = .ok (.iload_n 2, 1) := by decide +kernel
theorem dX8_ranks_13 : decode cX8_ranks 13 = .ok (.ifCond .le 39, 3) := by decide +kernel
theorem dX8_ranks_16 : decode cX8_ranks 16 = .ok (.aload_n 0, 1) := by decide +kernel
theorem dX8_ranks_17 : decode cX8_ranks 17 = .ok (.iload_n 1, 1) := by decide +kernel
theorem dX8_ranks_18 : decode cX8_ranks 18 = .ok (.aload_n 0, 1) := by decide +kernel
theorem dX8_ranks_19 : decode cX8_ranks 19 = .ok (.getfield 75, 3) := by decide +kernel
theorem dX8_ranks_22 : decode cX8_ranks 22 = .ok (.iload_n 2, 1) := by decide +kernel
theorem dX8_ranks_23 : decode cX8_ranks 23 = .ok (.iconst 1, 1) := by decide +kernel
theorem dX8_ranks_24 : decode cX8_ranks 24 = .ok (.isub, 1) := by decide +kernel
theorem dX8_ranks_25 : decode cX8_ranks 25 = .ok (.iaload, 1) := by decide +kernel
theorem dX8_ranks_26 : decode cX8_ranks 26 = .ok (.invokevirtual 169, 3) := by decide +kernel
theorem dX8_ranks_29 : decode cX8_ranks 29 = .ok (.ifCond .eq 23, 3) := by decide +kernel
theorem dX8_ranks_32 : decode cX8_ranks 32 = .ok (.aload_n 0, 1) := by decide +kernel
theorem dX8_ranks_33 : decode cX8_ranks 33 = .ok (.getfield 75, 3) := by decide +kernel
theorem dX8_ranks_36 : decode cX8_ranks 36 = .ok (.iload_n 2, 1) := by decide +kernel
theorem dX8_ranks_37 : decode cX8_ranks 37 = .ok (.aload_n 0, 1) := by decide +kernel
theorem dX8_ranks_38 : decode cX8_ranks 38 = .ok (.getfield 75, 3) := by decide +kernel
theorem dX8_ranks_41 : decode cX8_ranks 41 = .ok (.iload_n 2, 1) := by decide +kernel
theorem dX8_ranks_42 : decode cX8_ranks 42 = .ok (.iconst 1, 1) := by decide +kernel
theorem dX8_ranks_43 : decode cX8_ranks 43 = .ok (.isub, 1) := by decide +kernel
theorem dX8_ranks_44 : decode cX8_ranks 44 = .ok (.iaload, 1) := by decide +kernel
theorem dX8_ranks_45 : decode cX8_ranks 45 = .ok (.iastore, 1) := by decide +kernel
theorem dX8_ranks_46 : decode cX8_ranks 46 = .ok (.iinc 2 (-1), 3) := by decide +kernel
theorem dX8_ranks_49 : decode cX8_ranks 49 = .ok (.goto (-37), 3) := by decide +kernel
theorem dX8_ranks_52 : decode cX8_ranks 52 = .ok (.aload_n 0, 1) := by decide +kernel
theorem dX8_ranks_53 : decode cX8_ranks 53 = .ok (.getfield 75, 3) := by decide +kernel
theorem dX8_ranks_56 : decode cX8_ranks 56 = .ok (.iload_n 2, 1) := by decide +kernel
theorem dX8_ranks_57 : decode cX8_ranks 57 = .ok (.iload_n 1, 1) := by decide +kernel
theorem dX8_ranks_58 : decode cX8_ranks 58 = .ok (.iastore, 1) := by decide +kernel
theorem dX8_ranks_59 : decode cX8_ranks 59 = .ok (.iinc 1 1, 3) := by decide +kernel
theorem dX8_ranks_62 : decode cX8_ranks 62 = .ok (.goto (-60), 3) := by decide +kernel
theorem dX8_ranks_65 : decode cX8_ranks 65 = .ok (.return_, 1) := by decide +kernel
theorem dX8_goes_0 : decode cX8_goes 0 = .ok (.iconst 0, 1) := by decide +kernel
theorem dX8_goes_1 : decode cX8_goes 1 = .ok (.istore_n 1, 1) := by decide +kernel
theorem dX8_goes_2 : decode cX8_goes 2 = .ok (.iload_n 1, 1) := by decide +kernel
theorem dX8_goes_3 : decode cX8_goes 3 = .ok (.aload_n 0, 1) := by decide +kernel
theorem dX8_goes_4 : decode cX8_goes 4 = .ok (.getfield 108, 3) := by decide +kernel
theorem dX8_goes_7 : decode cX8_goes 7 = .ok (.if_icmp .ge 23, 3) := by decide +kernel
theorem dX8_goes_10 : decode cX8_goes 10 = .ok (.aload_n 0, 1) := by decide +kernel
theorem dX8_goes_11 : decode cX8_goes 11 = .ok (.getfield 78, 3) := by decide +kernel
theorem dX8_goes_14 : decode cX8_goes 14 = .ok (.iload_n 1, 1) := by decide +kernel
theorem dX8_goes_15 : decode cX8_goes 15 = .ok (.iconst 0, 1) := by decide +kernel
theorem dX8_goes_16 : decode cX8_goes 16 = .ok (.bastore, 1) := by decide +kernel
theorem dX8_goes_17 : decode cX8_goes 17 = .ok (.aload_n 0, 1) := by decide +kernel
theorem dX8_goes_18 : decode cX8_goes 18 = .ok (.getfield 60, 3) := by decide +kernel
theorem dX8_goes_21 : decode cX8_goes 21 = .ok (.iload_n 1, 1) := by decide +kernel
theorem dX8_goes_22 : decode cX8_goes 22 = .ok (.iconst 0, 1) := by decide +kernel
theorem dX8_goes_23 : decode cX8_goes 23 = .ok (.bastore, 1) := by decide +kernel
theorem dX8_goes_24 : decode cX8_goes 24 = .ok (.iinc 1 1, 3) := by decide +kernel
theorem dX8_goes_27 : decode cX8_goes 27 = .ok (.goto (-25), 3) := by decide +kernel
theorem dX8_goes_30 : decode cX8_goes 30 = .ok (.iconst 0, 1) := by decide +kernel
theorem dX8_goes_31 : decode cX8_goes 31 = .ok (.istore_n 1, 1) := by decide +kernel
theorem dX8_goes_32 : decode cX8_goes 32 = .ok (.iload_n 1, 1) := by decide +kernel
theorem dX8_goes_33 : decode cX8_goes 33 = .ok (.aload_n 0, 1) := by decide +kernel
theorem dX8_goes_34 : decode cX8_goes 34 = .ok (.getfield 108, 3) := by decide +kernel
theorem dX8_goes_37 : decode cX8_goes 37 = .ok (.if_icmp .ge 84, 3) := by decide +kernel
theorem dX8_goes_40 : decode cX8_goes 40 = .ok (.aload_n 0, 1) := by decide +kernel
theorem dX8_goes_41 : decode cX8_goes 41 = .ok (.getfield 75, 3) := by decide +kernel
theorem dX8_goes_44 : decode cX8_goes 44 = .ok (.iload_n 1, 1) := by decide +kernel
theorem dX8_goes_45 : decode cX8_goes 45 = .ok (.iaload, 1) := by decide +kernel
theorem dX8_goes_46 : decode cX8_goes 46 = .ok (.istore_n 2, 1) := by decide +kernel
theorem dX8_goes_47 : decode cX8_goes 47 = .ok (.aload_n 0, 1) := by decide +kernel
theorem dX8_goes_48 : decode cX8_goes 48 = .ok (.getfield 78, 3) := by decide +kernel
theorem dX8_goes_51 : decode cX8_goes 51 = .ok (.iload_n 2, 1) := by decide +kernel
theorem dX8_goes_52 : decode cX8_goes 52 = .ok (.baload, 1) := by decide +kernel
theorem dX8_goes_53 : decode cX8_goes 53 = .ok (.ifCond .eq 6, 3) := by decide +kernel
theorem dX8_goes_56 : decode cX8_goes 56 = .ok (.goto 59, 3) := by decide +kernel
theorem dX8_goes_59 : decode cX8_goes 59 = .ok (.aload_n 0, 1) := by decide +kernel
theorem dX8_goes_60 : decode cX8_goes 60 = .ok (.getfield 78, 3) := by decide +kernel
theorem dX8_goes_63 : decode cX8_goes 63 = .ok (.iload_n 2, 1) := by decide +kernel
theorem dX8_goes_64 : decode cX8_goes 64 = .ok (.iconst 1, 1) := by decide +kernel
theorem dX8_goes_65 : decode cX8_goes 65 = .ok (.bastore, 1) := by decide +kernel
theorem dX8_goes_66 : decode cX8_goes 66 = .ok (.aload_n 0, 1) := by decide +kernel
theorem dX8_goes_67 : decode cX8_goes 67 = .ok (.getfield 57, 3) := by decide +kernel
theorem dX8_goes_70 : decode cX8_goes 70 = .ok (.iload_n 2, 1) := by decide +kernel
theorem dX8_goes_71 : decode cX8_goes 71 = .ok (.iaload, 1) := by decide +kernel
theorem dX8_goes_72 : decode cX8_goes 72 = .ok (.istore_n 3, 1) := by decide +kernel
theorem dX8_goes_73 : decode cX8_goes 73 = .ok (.aload_n 0, 1) := by decide +kernel
theorem dX8_goes_74 : decode cX8_goes 74 = .ok (.iload_n 2, 1) := by decide +kernel
theorem dX8_goes_75 : decode cX8_goes 75 = .ok (.invokevirtual 172, 3) := by decide +kernel
theorem dX8_goes_78 : decode cX8_goes 78 = .ok (.istore 4, 2) := by decide +kernel
theorem dX8_goes_80 : decode cX8_goes 80 = .ok (.iload_n 3, 1) := by decide +kernel
theorem dX8_goes_81 : decode cX8_goes 81 = .ok (.iconst (-1), 1) := by decide +kernel
theorem dX8_goes_82 : decode cX8_goes 82 = .ok (.if_icmp .ne 6, 3) := by decide +kernel
theorem dX8_goes_85 : decode cX8_goes 85 = .ok (.goto 30, 3) := by decide +kernel
theorem dX8_goes_88 : decode cX8_goes 88 = .ok (.aload_n 0, 1) := by decide +kernel
theorem dX8_goes_89 : decode cX8_goes 89 = .ok (.getfield 78, 3) := by decide +kernel
theorem dX8_goes_92 : decode cX8_goes 92 = .ok (.iload_n 3, 1) := by decide +kernel
theorem dX8_goes_93 : decode cX8_goes 93 = .ok (.iconst 1, 1) := by decide +kernel
theorem dX8_goes_94 : decode cX8_goes 94 = .ok (.bastore, 1) := by decide +kernel
theorem dX8_goes_95 : decode cX8_goes 95 = .ok (.iload 4, 2) := by decide +kernel
theorem dX8_goes_97 : decode cX8_goes 97 = .ok (.ifCond .eq 18, 3) := by decide +kernel
theorem dX8_goes_100 : decode cX8_goes 100 = .ok (.aload_n 0, 1) := by decide +kernel
theorem dX8_goes_101 : decode cX8_goes 101 = .ok (.iload_n 3, 1) := by decide +kernel
theorem dX8_goes_102 : decode cX8_goes 102 = .ok (.invokevirtual 172, 3) := by decide +kernel
theorem dX8_goes_105 : decode cX8_goes 105 = .ok (.ifCond .ne 10, 3) := by decide +kernel
theorem dX8_goes_108 : decode cX8_goes 108 = .ok (.aload_n 0, 1) := by decide +kernel
theorem dX8_goes_109 : decode cX8_goes 109 = .ok (.getfield 60, 3) := by decide +kernel
theorem dX8_goes_112 : decode cX8_goes 112 = .ok (.iload_n 2, 1) := by decide +kernel
theorem dX8_goes_113 : decode cX8_goes 113 = .ok (.iconst 0, 1) := by decide +kernel
theorem dX8_goes_114 : decode cX8_goes 114 = .ok (.bastore, 1) := by decide +kernel
theorem dX8_goes_115 : decode cX8_goes 115 = .ok (.iinc 1 1, 3) := by decide +kernel
theorem dX8_goes_118 : decode cX8_goes 118 = .ok (.goto (-86), 3) := by decide +kernel
theorem dX8_goes_121 : decode cX8_goes 121 = .ok (.iconst 0, 1) := by decide +kernel
theorem dX8_goes_122 : decode cX8_goes 122 = .ok (.istore_n 1, 1) := by decide +kernel
theorem dX8_goes_123 : decode cX8_goes 123 = .ok (.iconst 0, 1) := by decide +kernel
theorem dX8_goes_124 : decode cX8_goes 124 = .ok (.istore_n 2, 1) := by decide +kernel
theorem dX8_goes_125 : decode cX8_goes 125 = .ok (.iload_n 2, 1) := by decide +kernel
theorem dX8_goes_126 : decode cX8_goes 126 = .ok (.aload_n 0, 1) := by decide +kernel
theorem dX8_goes_127 : decode cX8_goes 127 = .ok (.getfield 108, 3) := by decide +kernel
theorem dX8_goes_130 : decode cX8_goes 130 = .ok (.if_icmp .ge 31, 3) := by decide +kernel
theorem dX8_goes_133 : decode cX8_goes 133 = .ok (.iload_n 1, 1) := by decide +kernel
theorem dX8_goes_134 : decode cX8_goes 134 = .ok (.aload_n 0, 1) := by decide +kernel
theorem dX8_goes_135 : decode cX8_goes 135 = .ok (.getfield 60, 3) := by decide +kernel
theorem dX8_goes_138 : decode cX8_goes 138 = .ok (.iload_n 2, 1) := by decide +kernel
theorem dX8_goes_139 : decode cX8_goes 139 = .ok (.baload, 1) := by decide +kernel
theorem dX8_goes_140 : decode cX8_goes 140 = .ok (.ifCond .eq 12, 3) := by decide +kernel
theorem dX8_goes_143 : decode cX8_goes 143 = .ok (.aload_n 0, 1) := by decide +kernel
theorem dX8_goes_144 : decode cX8_goes 144 = .ok (.getfield 51, 3) := by decide +kernel
theorem dX8_goes_147 : decode cX8_goes 147 = .ok (.iload_n 2, 1) := by decide +kernel
theorem dX8_goes_148 : decode cX8_goes 148 = .ok (.iaload, 1) := by decide +kernel
theorem dX8_goes_149 : decode cX8_goes 149 = .ok (.goto 4, 3) := by decide +kernel
theorem dX8_goes_152 : decode cX8_goes 152 = .ok (.iconst 0, 1) := by decide +kernel
theorem dX8_goes_153 : decode cX8_goes 153 = .ok (.iadd, 1) := by decide +kernel
theorem dX8_goes_154 : decode cX8_goes 154 = .ok (.istore_n 1, 1) := by decide +kernel
theorem dX8_goes_155 : decode cX8_goes 155 = .ok (.iinc 2 1, 3) := by decide +kernel
theorem dX8_goes_158 : decode cX8_goes 158 = .ok (.goto (-33), 3) := by decide +kernel
theorem dX8_goes_161 : decode cX8_goes 161 = .ok (.iload_n 1, 1) := by decide +kernel
theorem dX8_goes_162 : decode cX8_goes 162 = .ok (.ireturn, 1) := by decide +kernel
theorem dX8_round_0 : decode cX8_round 0 = .ok (.aload_n 0, 1) := by decide +kernel
theorem dX8_round_1 : decode cX8_round 1 = .ok (.invokevirtual 175, 3) := by decide +kernel
theorem dX8_round_4 : decode cX8_round 4 = .ok (.aload_n 0, 1) := by decide +kernel
theorem dX8_round_5 : decode cX8_round 5 = .ok (.invokevirtual 178, 3) := by decide +kernel
theorem dX8_round_8 : decode cX8_round 8 = .ok (.pop, 1) := by decide +kernel
theorem dX8_round_9 : decode cX8_round 9 = .ok (.aload_n 0, 1) := by decide +kernel
theorem dX8_round_10 : decode cX8_round 10 = .ok (.iconst 2, 1) := by decide +kernel
theorem dX8_round_11 : decode cX8_round 11 = .ok (.invokevirtual 181, 3) := by decide +kernel
theorem dX8_round_14 : decode cX8_round 14 = .ok (.ireturn, 1) := by decide +kernel
theorem dX8_best_0 : decode cX8_best 0 = .ok (.aload_n 0, 1) := by decide +kernel
theorem dX8_best_1 : decode cX8_best 1 = .ok (.getfield 108, 3) := by decide +kernel
theorem dX8_best_4 : decode cX8_best 4 = .ok (.iconst 1, 1) := by decide +kernel
theorem dX8_best_5 : decode cX8_best 5 = .ok (.if_icmp .lt 11, 3) := by decide +kernel
theorem dX8_best_8 : decode cX8_best 8 = .ok (.aload_n 0, 1) := by decide +kernel
theorem dX8_best_9 : decode cX8_best 9 = .ok (.getfield 108, 3) := by decide +kernel
theorem dX8_best_12 : decode cX8_best 12 = .ok (.iconst 5, 1) := by decide +kernel
theorem dX8_best_13 : decode cX8_best 13 = .ok (.if_icmp .le 5, 3) := by decide +kernel
theorem dX8_best_16 : decode cX8_best 16 = .ok (.iconst (-1), 1) := by decide +kernel
theorem dX8_best_17 : decode cX8_best 17 = .ok (.ireturn, 1) := by decide +kernel
theorem dX8_best_18 : decode cX8_best 18 = .ok (.iconst 1, 1) := by decide +kernel
theorem dX8_best_19 : decode cX8_best 19 = .ok (.istore_n 1, 1) := by decide +kernel
theorem dX8_best_20 : decode cX8_best 20 = .ok (.iconst 2, 1) := by decide +kernel
theorem dX8_best_21 : decode cX8_best 21 = .ok (.istore_n 2, 1) := by decide +kernel
theorem dX8_best_22 : decode cX8_best 22 = .ok (.iload_n 2, 1) := by decide +kernel
theorem dX8_best_23 : decode cX8_best 23 = .ok (.aload_n 0, 1) := by decide +kernel
theorem dX8_best_24 : decode cX8_best 24 = .ok (.getfield 108, 3) := by decide +kernel
theorem dX8_best_27 : decode cX8_best 27 = .ok (.if_icmp .gt 13, 3) := by decide +kernel
theorem dX8_best_30 : decode cX8_best 30 = .ok (.iload_n 1, 1) := by decide +kernel
theorem dX8_best_31 : decode cX8_best 31 = .ok (.iload_n 2, 1) := by decide +kernel
theorem dX8_best_32 : decode cX8_best 32 = .ok (.imul, 1) := by decide +kernel
theorem dX8_best_33 : decode cX8_best 33 = .ok (.istore_n 1, 1) := by decide +kernel
theorem dX8_best_34 : decode cX8_best 34 = .ok (.iinc 2 1, 3) := by decide +kernel
theorem dX8_best_37 : decode cX8_best 37 = .ok (.goto (-15), 3) := by decide +kernel
theorem dX8_best_40 : decode cX8_best 40 = .ok (.iconst (-1), 1) := by decide +kernel
theorem dX8_best_41 : decode cX8_best 41 = .ok (.istore_n 2, 1) := by decide +kernel
theorem dX8_best_42 : decode cX8_best 42 = .ok (.iconst 0, 1) := by decide +kernel
theorem dX8_best_43 : decode cX8_best 43 = .ok (.istore_n 3, 1) := by decide +kernel
theorem dX8_best_44 : decode cX8_best 44 = .ok (.iconst 0, 1) := by decide +kernel
theorem dX8_best_45 : decode cX8_best 45 = .ok (.istore 4, 2) := by decide +kernel
theorem dX8_best_47 : decode cX8_best 47 = .ok (.iload 4, 2) := by decide +kernel
theorem dX8_best_49 : decode cX8_best 49 = .ok (.iload_n 1, 1) := by decide +kernel
theorem dX8_best_50 : decode cX8_best 50 = .ok (.if_icmp .ge 36, 3) := by decide +kernel
theorem dX8_best_53 : decode cX8_best 53 = .ok (.aload_n 0, 1) := by decide +kernel
theorem dX8_best_54 : decode cX8_best 54 = .ok (.iload 4, 2) := by decide +kernel
theorem dX8_best_56 : decode cX8_best 56 = .ok (.invokevirtual 184, 3) := by decide +kernel
theorem dX8_best_59 : decode cX8_best 59 = .ok (.aload_n 0, 1) := by decide +kernel
theorem dX8_best_60 : decode cX8_best 60 = .ok (.invokevirtual 178, 3) := by decide +kernel
theorem dX8_best_63 : decode cX8_best 63 = .ok (.istore 5, 2) := by decide +kernel
theorem dX8_best_65 : decode cX8_best 65 = .ok (.iload 5, 2) := by decide +kernel
theorem dX8_best_67 : decode cX8_best 67 = .ok (.iload_n 2, 1) := by decide +kernel
theorem dX8_best_68 : decode cX8_best 68 = .ok (.if_icmp .gt 6, 3) := by decide +kernel
theorem dX8_best_71 : decode cX8_best 71 = .ok (.goto 9, 3) := by decide +kernel
theorem dX8_best_74 : decode cX8_best 74 = .ok (.iload 5, 2) := by decide +kernel
theorem dX8_best_76 : decode cX8_best 76 = .ok (.istore_n 2, 1) := by decide +kernel
theorem dX8_best_77 : decode cX8_best 77 = .ok (.iload 4, 2) := by decide +kernel
theorem dX8_best_79 : decode cX8_best 79 = .ok (.istore_n 3, 1) := by decide +kernel
theorem dX8_best_80 : decode cX8_best 80 = .ok (.iinc 4 1, 3) := by decide +kernel
theorem dX8_best_83 : decode cX8_best 83 = .ok (.goto (-36), 3) := by decide +kernel
theorem dX8_best_86 : decode cX8_best 86 = .ok (.aload_n 0, 1) := by decide +kernel
theorem dX8_best_87 : decode cX8_best 87 = .ok (.iload_n 3, 1) := by decide +kernel
theorem dX8_best_88 : decode cX8_best 88 = .ok (.invokevirtual 184, 3) := by decide +kernel
theorem dX8_best_91 : decode cX8_best 91 = .ok (.aload_n 0, 1) := by decide +kernel
theorem dX8_best_92 : decode cX8_best 92 = .ok (.invokevirtual 178, 3) := by decide +kernel
theorem dX8_best_95 : decode cX8_best 95 = .ok (.pop, 1) := by decide +kernel
theorem dX8_best_96 : decode cX8_best 96 = .ok (.iload_n 2, 1) := by decide +kernel
theorem dX8_best_97 : decode cX8_best 97 = .ok (.ireturn, 1) := by decide +kernel
theorem dX8_orders_0 : decode cX8_orders 0 = .ok (.iload_n 1, 1) := by decide +kernel
theorem dX8_orders_1 : decode cX8_orders 1 = .ok (.istore_n 2, 1) := by decide +kernel
theorem dX8_orders_2 : decode cX8_orders 2 = .ok (.iconst 0, 1) := by decide +kernel
theorem dX8_orders_3 : decode cX8_orders 3 = .ok (.istore_n 3, 1) := by decide +kernel
theorem dX8_orders_4 : decode cX8_orders 4 = .ok (.iconst 0, 1) := by decide +kernel
theorem dX8_orders_5 : decode cX8_orders 5 = .ok (.istore 4, 2) := by decide +kernel
theorem dX8_orders_7 : decode cX8_orders 7 = .ok (.iload 4, 2) := by decide +kernel
theorem dX8_orders_9 : decode cX8_orders 9 = .ok (.aload_n 0, 1) := by decide +kernel
theorem dX8_orders_10 : decode cX8_orders 10 = .ok (.getfield 108, 3) := by decide +kernel
theorem dX8_orders_13 : decode cX8_orders 13 = .ok (.if_icmp .ge 116, 3) := by decide +kernel
theorem dX8_orders_16 : decode cX8_orders 16 = .ok (.iconst 1, 1) := by decide +kernel
theorem dX8_orders_17 : decode cX8_orders 17 = .ok (.istore 5, 2) := by decide +kernel
theorem dX8_orders_19 : decode cX8_orders 19 = .ok (.iconst 2, 1) := by decide +kernel
theorem dX8_orders_20 : decode cX8_orders 20 = .ok (.istore 6, 2) := by decide +kernel
theorem dX8_orders_22 : decode cX8_orders 22 = .ok (.iload 6, 2) := by decide +kernel
theorem dX8_orders_24 : decode cX8_orders 24 = .ok (.aload_n 0, 1) := by decide +kernel
theorem dX8_orders_25 : decode cX8_orders 25 = .ok (.getfield 108, 3) := by decide +kernel
theorem dX8_orders_28 : decode cX8_orders 28 = .ok (.iload 4, 2) := by decide +kernel
theorem dX8_orders_30 : decode cX8_orders 30 = .ok (.isub, 1) := by decide +kernel
theorem dX8_orders_31 : decode cX8_orders 31 = .ok (.if_icmp .ge 16, 3) := by decide +kernel
theorem dX8_orders_34 : decode cX8_orders 34 = .ok (.iload 5, 2) := by decide +kernel
theorem dX8_orders_36 : decode cX8_orders 36 = .ok (.iload 6, 2) := by decide +kernel
theorem dX8_orders_38 : decode cX8_orders 38 = .ok (.imul, 1) := by decide +kernel
theorem dX8_orders_39 : decode cX8_orders 39 = .ok (.istore 5, 2) := by decide +kernel
theorem dX8_orders_41 : decode cX8_orders 41 = .ok (.iinc 6 1, 3) := by decide +kernel
theorem dX8_orders_44 : decode cX8_orders 44 = .ok (.goto (-22), 3) := by decide +kernel
theorem dX8_orders_47 : decode cX8_orders 47 = .ok (.iload_n 2, 1) := by decide +kernel
theorem dX8_orders_48 : decode cX8_orders 48 = .ok (.iload 5, 2) := by decide +kernel
theorem dX8_orders_50 : decode cX8_orders 50 = .ok (.idiv, 1) := by decide +kernel
theorem dX8_orders_51 : decode cX8_orders 51 = .ok (.istore 6, 2) := by decide +kernel
theorem dX8_orders_53 : decode cX8_orders 53 = .ok (.iload_n 2, 1) := by decide +kernel
theorem dX8_orders_54 : decode cX8_orders 54 = .ok (.iload 5, 2) := by decide +kernel
theorem dX8_orders_56 : decode cX8_orders 56 = .ok (.irem, 1) := by decide +kernel
theorem dX8_orders_57 : decode cX8_orders 57 = .ok (.istore_n 2, 1) := by decide +kernel
theorem dX8_orders_58 : decode cX8_orders 58 = .ok (.iconst 0, 1) := by decide +kernel
theorem dX8_orders_59 : decode cX8_orders 59 = .ok (.istore 7, 2) := by decide +kernel
theorem dX8_orders_61 : decode cX8_orders 61 = .ok (.iload_n 3, 1) := by decide +kernel
theorem dX8_orders_62 : decode cX8_orders 62 = .ok (.iload 7, 2) := by decide +kernel
theorem dX8_orders_64 : decode cX8_orders 64 = .ok (.ishr, 1) := by decide +kernel
theorem dX8_orders_65 : decode cX8_orders 65 = .ok (.iconst 1, 1) := by decide +kernel
theorem dX8_orders_66 : decode cX8_orders 66 = .ok (.iand, 1) := by decide +kernel
theorem dX8_orders_67 : decode cX8_orders 67 = .ok (.iconst 1, 1) := by decide +kernel
theorem dX8_orders_68 : decode cX8_orders 68 = .ok (.if_icmp .ne 9, 3) := by decide +kernel
theorem dX8_orders_71 : decode cX8_orders 71 = .ok (.iinc 7 1, 3) := by decide +kernel
theorem dX8_orders_74 : decode cX8_orders 74 = .ok (.goto (-13), 3) := by decide +kernel
theorem dX8_orders_77 : decode cX8_orders 77 = .ok (.iload 6, 2) := by decide +kernel
theorem dX8_orders_79 : decode cX8_orders 79 = .ok (.ifCond .le 28, 3) := by decide +kernel
theorem dX8_orders_82 : decode cX8_orders 82 = .ok (.iinc 7 1, 3) := by decide +kernel
theorem dX8_orders_85 : decode cX8_orders 85 = .ok (.iload_n 3, 1) := by decide +kernel
theorem dX8_orders_86 : decode cX8_orders 86 = .ok (.iload 7, 2) := by decide +kernel
theorem dX8_orders_88 : decode cX8_orders 88 = .ok (.ishr, 1) := by decide +kernel
theorem dX8_orders_89 : decode cX8_orders 89 = .ok (.iconst 1, 1) := by decide +kernel
theorem dX8_orders_90 : decode cX8_orders 90 = .ok (.iand, 1) := by decide +kernel
theorem dX8_orders_91 : decode cX8_orders 91 = .ok (.iconst 1, 1) := by decide +kernel
theorem dX8_orders_92 : decode cX8_orders 92 = .ok (.if_icmp .ne 9, 3) := by decide +kernel
theorem dX8_orders_95 : decode cX8_orders 95 = .ok (.iinc 7 1, 3) := by decide +kernel
theorem dX8_orders_98 : decode cX8_orders 98 = .ok (.goto (-13), 3) := by decide +kernel
theorem dX8_orders_101 : decode cX8_orders 101 = .ok (.iinc 6 (-1), 3) := by decide +kernel
theorem dX8_orders_104 : decode cX8_orders 104 = .ok (.goto (-27), 3) := by decide +kernel
theorem dX8_orders_107 : decode cX8_orders 107 = .ok (.aload_n 0, 1) := by decide +kernel
theorem dX8_orders_108 : decode cX8_orders 108 = .ok (.getfield 75, 3) := by decide +kernel
theorem dX8_orders_111 : decode cX8_orders 111 = .ok (.iload 4, 2) := by decide +kernel
theorem dX8_orders_113 : decode cX8_orders 113 = .ok (.iload 7, 2) := by decide +kernel
theorem dX8_orders_115 : decode cX8_orders 115 = .ok (.iastore, 1) := by decide +kernel
theorem dX8_orders_116 : decode cX8_orders 116 = .ok (.iload_n 3, 1) := by decide +kernel
theorem dX8_orders_117 : decode cX8_orders 117 = .ok (.iconst 1, 1) := by decide +kernel
theorem dX8_orders_118 : decode cX8_orders 118 = .ok (.iload 7, 2) := by decide +kernel
theorem dX8_orders_120 : decode cX8_orders 120 = .ok (.ishl, 1) := by decide +kernel
theorem dX8_orders_121 : decode cX8_orders 121 = .ok (.ior, 1) := by decide +kernel
theorem dX8_orders_122 : decode cX8_orders 122 = .ok (.istore_n 3, 1) := by decide +kernel
theorem dX8_orders_123 : decode cX8_orders 123 = .ok (.iinc 4 1, 3) := by decide +kernel
theorem dX8_orders_126 : decode cX8_orders 126 = .ok (.goto (-119), 3) := by decide +kernel
theorem dX8_orders_129 : decode cX8_orders 129 = .ok (.return_, 1) := by decide +kernel
theorem dX8_path_0 : decode cX8_path 0 = .ok (.aload_n 0, 1) := by decide +kernel
theorem dX8_path_1 : decode cX8_path 1 = .ok (.iload_n 1, 1) := by decide +kernel
theorem dX8_path_2 : decode cX8_path 2 = .ok (.invokevirtual 118, 3) := by decide +kernel
theorem dX8_path_5 : decode cX8_path 5 = .ok (.ifCond .eq 12, 3) := by decide +kernel
theorem dX8_path_8 : decode cX8_path 8 = .ok (.aload_n 0, 1) := by decide +kernel
theorem dX8_path_9 : decode cX8_path 9 = .ok (.getfield 60, 3) := by decide +kernel
theorem dX8_path_12 : decode cX8_path 12 = .ok (.iload_n 1, 1) := by decide +kernel
theorem dX8_path_13 : decode cX8_path 13 = .ok (.baload, 1) := by decide +kernel
theorem dX8_path_14 : decode cX8_path 14 = .ok (.ifCond .ne 5, 3) := by decide +kernel
theorem dX8_path_17 : decode cX8_path 17 = .ok (.iconst (-1), 1) := by decide +kernel
theorem dX8_path_18 : decode cX8_path 18 = .ok (.ireturn, 1) := by decide +kernel
theorem dX8_path_19 : decode cX8_path 19 = .ok (.iconst 0, 1) := by decide +kernel
theorem dX8_path_20 : decode cX8_path 20 = .ok (.istore_n 3, 1) := by decide +kernel
theorem dX8_path_21 : decode cX8_path 21 = .ok (.iload_n 3, 1) := by decide +kernel
theorem dX8_path_22 : decode cX8_path 22 = .ok (.aload_n 0, 1) := by decide +kernel
theorem dX8_path_23 : decode cX8_path 23 = .ok (.iload_n 1, 1) := by decide +kernel
theorem dX8_path_24 : decode cX8_path 24 = .ok (.invokevirtual 126, 3) := by decide +kernel
theorem dX8_path_27 : decode cX8_path 27 = .ok (.if_icmp .gt 31, 3) := by decide +kernel
theorem dX8_path_30 : decode cX8_path 30 = .ok (.aload_n 0, 1) := by decide +kernel
theorem dX8_path_31 : decode cX8_path 31 = .ok (.iload_n 1, 1) := by decide +kernel
theorem dX8_path_32 : decode cX8_path 32 = .ok (.iload_n 3, 1) := by decide +kernel
theorem dX8_path_33 : decode cX8_path 33 = .ok (.invokevirtual 151, 3) := by decide +kernel
theorem dX8_path_36 : decode cX8_path 36 = .ok (.iload_n 2, 1) := by decide +kernel
theorem dX8_path_37 : decode cX8_path 37 = .ok (.if_icmp .ne 15, 3) := by decide +kernel
theorem dX8_path_40 : decode cX8_path 40 = .ok (.aload_n 0, 1) := by decide +kernel
theorem dX8_path_41 : decode cX8_path 41 = .ok (.getfield 63, 3) := by decide +kernel
theorem dX8_path_44 : decode cX8_path 44 = .ok (.bipush 8, 2) := by decide +kernel
theorem dX8_path_46 : decode cX8_path 46 = .ok (.iload_n 1, 1) := by decide +kernel
theorem dX8_path_47 : decode cX8_path 47 = .ok (.imul, 1) := by decide +kernel
theorem dX8_path_48 : decode cX8_path 48 = .ok (.iload_n 3, 1) := by decide +kernel
theorem dX8_path_49 : decode cX8_path 49 = .ok (.iadd, 1) := by decide +kernel
theorem dX8_path_50 : decode cX8_path 50 = .ok (.iaload, 1) := by decide +kernel
theorem dX8_path_51 : decode cX8_path 51 = .ok (.ireturn, 1) := by decide +kernel
theorem dX8_path_52 : decode cX8_path 52 = .ok (.iinc 3 1, 3) := by decide +kernel
theorem dX8_path_55 : decode cX8_path 55 = .ok (.goto (-34), 3) := by decide +kernel
theorem dX8_path_58 : decode cX8_path 58 = .ok (.iconst (-1), 1) := by decide +kernel
theorem dX8_path_59 : decode cX8_path 59 = .ok (.ireturn, 1) := by decide +kernel
theorem dX8_isIn_0 : decode cX8_isIn 0 = .ok (.aload_n 0, 1) := by decide +kernel
theorem dX8_isIn_1 : decode cX8_isIn 1 = .ok (.getfield 63, 3) := by decide +kernel
theorem dX8_isIn_4 : decode cX8_isIn 4 = .ok (.bipush 8, 2) := by decide +kernel
theorem dX8_isIn_6 : decode cX8_isIn 6 = .ok (.iload_n 1, 1) := by decide +kernel
theorem dX8_isIn_7 : decode cX8_isIn 7 = .ok (.imul, 1) := by decide +kernel
theorem dX8_isIn_8 : decode cX8_isIn 8 = .ok (.iload_n 2, 1) := by decide +kernel
theorem dX8_isIn_9 : decode cX8_isIn 9 = .ok (.iadd, 1) := by decide +kernel
theorem dX8_isIn_10 : decode cX8_isIn 10 = .ok (.iaload, 1) := by decide +kernel
theorem dX8_isIn_11 : decode cX8_isIn 11 = .ok (.istore 4, 2) := by decide +kernel
theorem dX8_isIn_13 : decode cX8_isIn 13 = .ok (.iload_n 3, 1) := by decide +kernel
theorem dX8_isIn_14 : decode cX8_isIn 14 = .ok (.iload 4, 2) := by decide +kernel
theorem dX8_isIn_16 : decode cX8_isIn 16 = .ok (.iload 4, 2) := by decide +kernel
theorem dX8_isIn_18 : decode cX8_isIn 18 = .ok (.aload_n 0, 1) := by decide +kernel
theorem dX8_isIn_19 : decode cX8_isIn 19 = .ok (.iload_n 1, 1) := by decide +kernel
theorem dX8_isIn_20 : decode cX8_isIn 20 = .ok (.iload_n 2, 1) := by decide +kernel
theorem dX8_isIn_21 : decode cX8_isIn 21 = .ok (.invokevirtual 134, 3) := by decide +kernel
theorem dX8_isIn_24 : decode cX8_isIn 24 = .ok (.iadd, 1) := by decide +kernel
theorem dX8_isIn_25 : decode cX8_isIn 25 = .ok (.iconst 1, 1) := by decide +kernel
theorem dX8_isIn_26 : decode cX8_isIn 26 = .ok (.isub, 1) := by decide +kernel
theorem dX8_isIn_27 : decode cX8_isIn 27 = .ok (.invokestatic 111, 3) := by decide +kernel
theorem dX8_isIn_30 : decode cX8_isIn 30 = .ok (.ireturn, 1) := by decide +kernel
theorem dX8_holds_0 : decode cX8_holds 0 = .ok (.aload_n 0, 1) := by decide +kernel
theorem dX8_holds_1 : decode cX8_holds 1 = .ok (.iload_n 1, 1) := by decide +kernel
theorem dX8_holds_2 : decode cX8_holds 2 = .ok (.iload_n 2, 1) := by decide +kernel
theorem dX8_holds_3 : decode cX8_holds 3 = .ok (.invokevirtual 144, 3) := by decide +kernel
theorem dX8_holds_6 : decode cX8_holds 6 = .ok (.istore 4, 2) := by decide +kernel
theorem dX8_holds_8 : decode cX8_holds 8 = .ok (.iload 4, 2) := by decide +kernel
theorem dX8_holds_10 : decode cX8_holds 10 = .ok (.iconst (-1), 1) := by decide +kernel
theorem dX8_holds_11 : decode cX8_holds 11 = .ok (.if_icmp .ne 7, 3) := by decide +kernel
theorem dX8_holds_14 : decode cX8_holds 14 = .ok (.iconst 0, 1) := by decide +kernel
theorem dX8_holds_15 : decode cX8_holds 15 = .ok (.goto 15, 3) := by decide +kernel
theorem dX8_holds_18 : decode cX8_holds 18 = .ok (.aload_n 0, 1) := by decide +kernel
theorem dX8_holds_19 : decode cX8_holds 19 = .ok (.getfield 63, 3) := by decide +kernel
theorem dX8_holds_22 : decode cX8_holds 22 = .ok (.bipush 8, 2) := by decide +kernel
theorem dX8_holds_24 : decode cX8_holds 24 = .ok (.iload_n 1, 1) := by decide +kernel
theorem dX8_holds_25 : decode cX8_holds 25 = .ok (.imul, 1) := by decide +kernel
theorem dX8_holds_26 : decode cX8_holds 26 = .ok (.iload 4, 2) := by decide +kernel
theorem dX8_holds_28 : decode cX8_holds 28 = .ok (.iadd, 1) := by decide +kernel
theorem dX8_holds_29 : decode cX8_holds 29 = .ok (.iaload, 1) := by decide +kernel
theorem dX8_holds_30 : decode cX8_holds 30 = .ok (.istore 5, 2) := by decide +kernel
theorem dX8_holds_32 : decode cX8_holds 32 = .ok (.iload 4, 2) := by decide +kernel
theorem dX8_holds_34 : decode cX8_holds 34 = .ok (.iconst (-1), 1) := by decide +kernel
theorem dX8_holds_35 : decode cX8_holds 35 = .ok (.if_icmp .eq 33, 3) := by decide +kernel
theorem dX8_holds_38 : decode cX8_holds 38 = .ok (.iload_n 3, 1) := by decide +kernel
theorem dX8_holds_39 : decode cX8_holds 39 = .ok (.iload 5, 2) := by decide +kernel
theorem dX8_holds_41 : decode cX8_holds 41 = .ok (.iload 5, 2) := by decide +kernel
theorem dX8_holds_43 : decode cX8_holds 43 = .ok (.aload_n 0, 1) := by decide +kernel
theorem dX8_holds_44 : decode cX8_holds 44 = .ok (.iload_n 1, 1) := by decide +kernel
theorem dX8_holds_45 : decode cX8_holds 45 = .ok (.iload 4, 2) := by decide +kernel
theorem dX8_holds_47 : decode cX8_holds 47 = .ok (.invokevirtual 134, 3) := by decide +kernel
theorem dX8_holds_50 : decode cX8_holds 50 = .ok (.iadd, 1) := by decide +kernel
theorem dX8_holds_51 : decode cX8_holds 51 = .ok (.iconst 1, 1) := by decide +kernel
theorem dX8_holds_52 : decode cX8_holds 52 = .ok (.isub, 1) := by decide +kernel
theorem dX8_holds_53 : decode cX8_holds 53 = .ok (.aload_n 0, 1) := by decide +kernel
theorem dX8_holds_54 : decode cX8_holds 54 = .ok (.invokevirtual 130, 3) := by decide +kernel
theorem dX8_holds_57 : decode cX8_holds 57 = .ok (.iadd, 1) := by decide +kernel
theorem dX8_holds_58 : decode cX8_holds 58 = .ok (.invokestatic 111, 3) := by decide +kernel
theorem dX8_holds_61 : decode cX8_holds 61 = .ok (.ifCond .eq 7, 3) := by decide +kernel
theorem dX8_holds_64 : decode cX8_holds 64 = .ok (.iconst 1, 1) := by decide +kernel
theorem dX8_holds_65 : decode cX8_holds 65 = .ok (.goto 4, 3) := by decide +kernel
theorem dX8_holds_68 : decode cX8_holds 68 = .ok (.iconst 0, 1) := by decide +kernel
theorem dX8_holds_69 : decode cX8_holds 69 = .ok (.ireturn, 1) := by decide +kernel
theorem dX8_breaks_0 : decode cX8_breaks 0 = .ok (.iload_n 2, 1) := by decide +kernel
theorem dX8_breaks_1 : decode cX8_breaks 1 = .ok (.iconst 3, 1) := by decide +kernel
theorem dX8_breaks_2 : decode cX8_breaks 2 = .ok (.if_icmp .ne 57, 3) := by decide +kernel
theorem dX8_breaks_5 : decode cX8_breaks 5 = .ok (.iconst 1, 1) := by decide +kernel
theorem dX8_breaks_6 : decode cX8_breaks 6 = .ok (.istore 4, 2) := by decide +kernel
theorem dX8_breaks_8 : decode cX8_breaks 8 = .ok (.iload 4, 2) := by decide +kernel
theorem dX8_breaks_10 : decode cX8_breaks 10 = .ok (.aload_n 0, 1) := by decide +kernel
theorem dX8_breaks_11 : decode cX8_breaks 11 = .ok (.iload_n 1, 1) := by decide +kernel
theorem dX8_breaks_12 : decode cX8_breaks 12 = .ok (.invokevirtual 126, 3) := by decide +kernel
theorem dX8_breaks_15 : decode cX8_breaks 15 = .ok (.if_icmp .ge 42, 3) := by decide +kernel
theorem dX8_breaks_18 : decode cX8_breaks 18 = .ok (.aload_n 0, 1) := by decide +kernel
theorem dX8_breaks_19 : decode cX8_breaks 19 = .ok (.iload_n 1, 1) := by decide +kernel
theorem dX8_breaks_20 : decode cX8_breaks 20 = .ok (.iload 4, 2) := by decide +kernel
theorem dX8_breaks_22 : decode cX8_breaks 22 = .ok (.invokevirtual 151, 3) := by decide +kernel
theorem dX8_breaks_25 : decode cX8_breaks 25 = .ok (.istore 5, 2) := by decide +kernel
theorem dX8_breaks_27 : decode cX8_breaks 27 = .ok (.aload_n 0, 1) := by decide +kernel
theorem dX8_breaks_28 : decode cX8_breaks 28 = .ok (.iload_n 1, 1) := by decide +kernel
theorem dX8_breaks_29 : decode cX8_breaks 29 = .ok (.iload 5, 2) := by decide +kernel
theorem dX8_breaks_31 : decode cX8_breaks 31 = .ok (.iload_n 3, 1) := by decide +kernel
theorem dX8_breaks_32 : decode cX8_breaks 32 = .ok (.invokevirtual 157, 3) := by decide +kernel
theorem dX8_breaks_35 : decode cX8_breaks 35 = .ok (.ifCond .eq 16, 3) := by decide +kernel
theorem dX8_breaks_38 : decode cX8_breaks 38 = .ok (.aload_n 0, 1) := by decide +kernel
theorem dX8_breaks_39 : decode cX8_breaks 39 = .ok (.iload_n 1, 1) := by decide +kernel
theorem dX8_breaks_40 : decode cX8_breaks 40 = .ok (.iload 5, 2) := by decide +kernel
theorem dX8_breaks_42 : decode cX8_breaks 42 = .ok (.iload_n 3, 1) := by decide +kernel
theorem dX8_breaks_43 : decode cX8_breaks 43 = .ok (.invokevirtual 160, 3) := by decide +kernel
theorem dX8_breaks_46 : decode cX8_breaks 46 = .ok (.ifCond .ne 5, 3) := by decide +kernel
theorem dX8_breaks_49 : decode cX8_breaks 49 = .ok (.iconst 1, 1) := by decide +kernel
theorem dX8_breaks_50 : decode cX8_breaks 50 = .ok (.ireturn, 1) := by decide +kernel
theorem dX8_breaks_51 : decode cX8_breaks 51 = .ok (.iinc 4 1, 3) := by decide +kernel
theorem dX8_breaks_54 : decode cX8_breaks 54 = .ok (.goto (-46), 3) := by decide +kernel
theorem dX8_breaks_57 : decode cX8_breaks 57 = .ok (.iconst 0, 1) := by decide +kernel
theorem dX8_breaks_58 : decode cX8_breaks 58 = .ok (.ireturn, 1) := by decide +kernel
theorem dX8_breaks_59 : decode cX8_breaks 59 = .ok (.iconst 0, 1) := by decide +kernel
theorem dX8_breaks_60 : decode cX8_breaks 60 = .ok (.istore 4, 2) := by decide +kernel
theorem dX8_breaks_62 : decode cX8_breaks 62 = .ok (.iload 4, 2) := by decide +kernel
theorem dX8_breaks_64 : decode cX8_breaks 64 = .ok (.aload_n 0, 1) := by decide +kernel
theorem dX8_breaks_65 : decode cX8_breaks 65 = .ok (.iload_n 1, 1) := by decide +kernel
theorem dX8_breaks_66 : decode cX8_breaks 66 = .ok (.invokevirtual 126, 3) := by decide +kernel
theorem dX8_breaks_69 : decode cX8_breaks 69 = .ok (.if_icmp .ge 122, 3) := by decide +kernel
theorem dX8_breaks_72 : decode cX8_breaks 72 = .ok (.aload_n 0, 1) := by decide +kernel
theorem dX8_breaks_73 : decode cX8_breaks 73 = .ok (.iload_n 1, 1) := by decide +kernel
theorem dX8_breaks_74 : decode cX8_breaks 74 = .ok (.iload 4, 2) := by decide +kernel
theorem dX8_breaks_76 : decode cX8_breaks 76 = .ok (.iload_n 3, 1) := by decide +kernel
theorem dX8_breaks_77 : decode cX8_breaks 77 = .ok (.invokevirtual 188, 3) := by decide +kernel
theorem dX8_breaks_80 : decode cX8_breaks 80 = .ok (.ifCond .ne 6, 3) := by decide +kernel
theorem dX8_breaks_83 : decode cX8_breaks 83 = .ok (.goto 102, 3) := by decide +kernel
theorem dX8_breaks_86 : decode cX8_breaks 86 = .ok (.aload_n 0, 1) := by decide +kernel
theorem dX8_breaks_87 : decode cX8_breaks 87 = .ok (.iload_n 1, 1) := by decide +kernel
theorem dX8_breaks_88 : decode cX8_breaks 88 = .ok (.iload 4, 2) := by decide +kernel
theorem dX8_breaks_90 : decode cX8_breaks 90 = .ok (.invokevirtual 122, 3) := by decide +kernel
theorem dX8_breaks_93 : decode cX8_breaks 93 = .ok (.istore 5, 2) := by decide +kernel
theorem dX8_breaks_95 : decode cX8_breaks 95 = .ok (.iload_n 2, 1) := by decide +kernel
theorem dX8_breaks_96 : decode cX8_breaks 96 = .ok (.iconst 1, 1) := by decide +kernel
theorem dX8_breaks_97 : decode cX8_breaks 97 = .ok (.if_icmp .ne 15, 3) := by decide +kernel
theorem dX8_breaks_100 : decode cX8_breaks 100 = .ok (.aload_n 0, 1) := by decide +kernel
theorem dX8_breaks_101 : decode cX8_breaks 101 = .ok (.iload 5, 2) := by decide +kernel
theorem dX8_breaks_103 : decode cX8_breaks 103 = .ok (.iload_n 3, 1) := by decide +kernel
theorem dX8_breaks_104 : decode cX8_breaks 104 = .ok (.invokevirtual 137, 3) := by decide +kernel
theorem dX8_breaks_107 : decode cX8_breaks 107 = .ok (.ifCond .eq 5, 3) := by decide +kernel
theorem dX8_breaks_110 : decode cX8_breaks 110 = .ok (.iconst 1, 1) := by decide +kernel
theorem dX8_breaks_111 : decode cX8_breaks 111 = .ok (.ireturn, 1) := by decide +kernel
theorem dX8_breaks_112 : decode cX8_breaks 112 = .ok (.iconst 0, 1) := by decide +kernel
theorem dX8_breaks_113 : decode cX8_breaks 113 = .ok (.istore 6, 2) := by decide +kernel
theorem dX8_breaks_115 : decode cX8_breaks 115 = .ok (.iload 6, 2) := by decide +kernel
theorem dX8_breaks_117 : decode cX8_breaks 117 = .ok (.aload_n 0, 1) := by decide +kernel
theorem dX8_breaks_118 : decode cX8_breaks 118 = .ok (.getfield 108, 3) := by decide +kernel
theorem dX8_breaks_121 : decode cX8_breaks 121 = .ok (.if_icmp .ge 64, 3) := by decide +kernel
theorem dX8_breaks_124 : decode cX8_breaks 124 = .ok (.iload_n 2, 1) := by decide +kernel
theorem dX8_breaks_125 : decode cX8_breaks 125 = .ok (.iconst 2, 1) := by decide +kernel
theorem dX8_breaks_126 : decode cX8_breaks 126 = .ok (.if_icmp .ne 59, 3) := by decide +kernel
theorem dX8_breaks_129 : decode cX8_breaks 129 = .ok (.iload 6, 2) := by decide +kernel
theorem dX8_breaks_131 : decode cX8_breaks 131 = .ok (.iload_n 1, 1) := by decide +kernel
theorem dX8_breaks_132 : decode cX8_breaks 132 = .ok (.if_icmp .eq 47, 3) := by decide +kernel
theorem dX8_breaks_135 : decode cX8_breaks 135 = .ok (.aload_n 0, 1) := by decide +kernel
theorem dX8_breaks_136 : decode cX8_breaks 136 = .ok (.getfield 60, 3) := by decide +kernel
theorem dX8_breaks_139 : decode cX8_breaks 139 = .ok (.iload 6, 2) := by decide +kernel
theorem dX8_breaks_141 : decode cX8_breaks 141 = .ok (.baload, 1) := by decide +kernel
theorem dX8_breaks_142 : decode cX8_breaks 142 = .ok (.ifCond .eq 37, 3) := by decide +kernel
theorem dX8_breaks_145 : decode cX8_breaks 145 = .ok (.aload_n 0, 1) := by decide +kernel
theorem dX8_breaks_146 : decode cX8_breaks 146 = .ok (.getfield 9, 3) := by decide +kernel
theorem dX8_breaks_149 : decode cX8_breaks 149 = .ok (.iload 5, 2) := by decide +kernel
theorem dX8_breaks_151 : decode cX8_breaks 151 = .ok (.baload, 1) := by decide +kernel
theorem dX8_breaks_152 : decode cX8_breaks 152 = .ok (.ifCond .eq 13, 3) := by decide +kernel
theorem dX8_breaks_155 : decode cX8_breaks 155 = .ok (.aload_n 0, 1) := by decide +kernel
theorem dX8_breaks_156 : decode cX8_breaks 156 = .ok (.iload 6, 2) := by decide +kernel
theorem dX8_breaks_158 : decode cX8_breaks 158 = .ok (.iload_n 1, 1) := by decide +kernel
theorem dX8_breaks_159 : decode cX8_breaks 159 = .ok (.invokevirtual 141, 3) := by decide +kernel
theorem dX8_breaks_162 : decode cX8_breaks 162 = .ok (.ifCond .eq 17, 3) := by decide +kernel
theorem dX8_breaks_165 : decode cX8_breaks 165 = .ok (.aload_n 0, 1) := by decide +kernel
theorem dX8_breaks_166 : decode cX8_breaks 166 = .ok (.iload 6, 2) := by decide +kernel
theorem dX8_breaks_168 : decode cX8_breaks 168 = .ok (.iload 5, 2) := by decide +kernel
theorem dX8_breaks_170 : decode cX8_breaks 170 = .ok (.iload_n 3, 1) := by decide +kernel
theorem dX8_breaks_171 : decode cX8_breaks 171 = .ok (.invokevirtual 191, 3) := by decide +kernel
theorem dX8_breaks_174 : decode cX8_breaks 174 = .ok (.ifCond .eq 5, 3) := by decide +kernel
theorem dX8_breaks_177 : decode cX8_breaks 177 = .ok (.iconst 1, 1) := by decide +kernel
theorem dX8_breaks_178 : decode cX8_breaks 178 = .ok (.ireturn, 1) := by decide +kernel
theorem dX8_breaks_179 : decode cX8_breaks 179 = .ok (.iinc 6 1, 3) := by decide +kernel
theorem dX8_breaks_182 : decode cX8_breaks 182 = .ok (.goto (-67), 3) := by decide +kernel
theorem dX8_breaks_185 : decode cX8_breaks 185 = .ok (.iinc 4 1, 3) := by decide +kernel
theorem dX8_breaks_188 : decode cX8_breaks 188 = .ok (.goto (-126), 3) := by decide +kernel
theorem dX8_breaks_191 : decode cX8_breaks 191 = .ok (.iconst 0, 1) := by decide +kernel
theorem dX8_breaks_192 : decode cX8_breaks 192 = .ok (.ireturn, 1) := by decide +kernel
theorem dX8_why_0 : decode cX8_why 0 = .ok (.iload_n 1, 1) := by decide +kernel
theorem dX8_why_1 : decode cX8_why 1 = .ok (.iconst 0, 1) := by decide +kernel
theorem dX8_why_2 : decode cX8_why 2 = .ok (.iconst 2, 1) := by decide +kernel
theorem dX8_why_3 : decode cX8_why 3 = .ok (.invokestatic 111, 3) := by decide +kernel
theorem dX8_why_6 : decode cX8_why 6 = .ok (.ifCond .ne 5, 3) := by decide +kernel
theorem dX8_why_9 : decode cX8_why 9 = .ok (.iconst (-1), 1) := by decide +kernel
theorem dX8_why_10 : decode cX8_why 10 = .ok (.ireturn, 1) := by decide +kernel
theorem dX8_why_11 : decode cX8_why 11 = .ok (.iconst 0, 1) := by decide +kernel
theorem dX8_why_12 : decode cX8_why 12 = .ok (.istore_n 2, 1) := by decide +kernel
theorem dX8_why_13 : decode cX8_why 13 = .ok (.iload_n 2, 1) := by decide +kernel
theorem dX8_why_14 : decode cX8_why 14 = .ok (.aload_n 0, 1) := by decide +kernel
theorem dX8_why_15 : decode cX8_why 15 = .ok (.getfield 108, 3) := by decide +kernel
theorem dX8_why_18 : decode cX8_why 18 = .ok (.if_icmp .ge 79, 3) := by decide +kernel
theorem dX8_why_21 : decode cX8_why 21 = .ok (.iconst 1, 1) := by decide +kernel
theorem dX8_why_22 : decode cX8_why 22 = .ok (.istore_n 3, 1) := by decide +kernel
theorem dX8_why_23 : decode cX8_why 23 = .ok (.iload_n 3, 1) := by decide +kernel
theorem dX8_why_24 : decode cX8_why 24 = .ok (.iconst 3, 1) := by decide +kernel
theorem dX8_why_25 : decode cX8_why 25 = .ok (.if_icmp .gt 66, 3) := by decide +kernel
theorem dX8_why_28 : decode cX8_why 28 = .ok (.aload_n 0, 1) := by decide +kernel
theorem dX8_why_29 : decode cX8_why 29 = .ok (.getfield 60, 3) := by decide +kernel
theorem dX8_why_32 : decode cX8_why 32 = .ok (.iload_n 2, 1) := by decide +kernel
theorem dX8_why_33 : decode cX8_why 33 = .ok (.baload, 1) := by decide +kernel
theorem dX8_why_34 : decode cX8_why 34 = .ok (.ifCond .eq 57, 3) := by decide +kernel
theorem dX8_why_37 : decode cX8_why 37 = .ok (.iconst 0, 1) := by decide +kernel
theorem dX8_why_38 : decode cX8_why 38 = .ok (.istore 4, 2) := by decide +kernel
theorem dX8_why_40 : decode cX8_why 40 = .ok (.iload 4, 2) := by decide +kernel
theorem dX8_why_42 : decode cX8_why 42 = .ok (.sipush 240, 3) := by decide +kernel
theorem dX8_why_45 : decode cX8_why 45 = .ok (.if_icmp .ge 40, 3) := by decide +kernel
theorem dX8_why_48 : decode cX8_why 48 = .ok (.aload_n 0, 1) := by decide +kernel
theorem dX8_why_49 : decode cX8_why 49 = .ok (.iload_n 2, 1) := by decide +kernel
theorem dX8_why_50 : decode cX8_why 50 = .ok (.iload_n 3, 1) := by decide +kernel
theorem dX8_why_51 : decode cX8_why 51 = .ok (.iload 4, 2) := by decide +kernel
theorem dX8_why_53 : decode cX8_why 53 = .ok (.invokevirtual 194, 3) := by decide +kernel
theorem dX8_why_56 : decode cX8_why 56 = .ok (.ifCond .eq 23, 3) := by decide +kernel
theorem dX8_why_59 : decode cX8_why 59 = .ok (.iload_n 1, 1) := by decide +kernel
theorem dX8_why_60 : decode cX8_why 60 = .ok (.ifCond .ne 7, 3) := by decide +kernel
theorem dX8_why_63 : decode cX8_why 63 = .ok (.iload_n 2, 1) := by decide +kernel
theorem dX8_why_64 : decode cX8_why 64 = .ok (.goto 14, 3) := by decide +kernel
theorem dX8_why_67 : decode cX8_why 67 = .ok (.iload_n 1, 1) := by decide +kernel
theorem dX8_why_68 : decode cX8_why 68 = .ok (.iconst 1, 1) := by decide +kernel
theorem dX8_why_69 : decode cX8_why 69 = .ok (.if_icmp .ne 7, 3) := by decide +kernel
theorem dX8_why_72 : decode cX8_why 72 = .ok (.iload_n 3, 1) := by decide +kernel
theorem dX8_why_73 : decode cX8_why 73 = .ok (.goto 5, 3) := by decide +kernel
theorem dX8_why_76 : decode cX8_why 76 = .ok (.iload 4, 2) := by decide +kernel
theorem dX8_why_78 : decode cX8_why 78 = .ok (.ireturn, 1) := by decide +kernel
theorem dX8_why_79 : decode cX8_why 79 = .ok (.iinc 4 1, 3) := by decide +kernel
theorem dX8_why_82 : decode cX8_why 82 = .ok (.goto (-42), 3) := by decide +kernel
theorem dX8_why_85 : decode cX8_why 85 = .ok (.iinc 3 1, 3) := by decide +kernel
theorem dX8_why_88 : decode cX8_why 88 = .ok (.goto (-65), 3) := by decide +kernel
theorem dX8_why_91 : decode cX8_why 91 = .ok (.iinc 2 1, 3) := by decide +kernel
theorem dX8_why_94 : decode cX8_why 94 = .ok (.goto (-81), 3) := by decide +kernel
theorem dX8_why_97 : decode cX8_why 97 = .ok (.iconst (-1), 1) := by decide +kernel
theorem dX8_why_98 : decode cX8_why 98 = .ok (.ireturn, 1) := by decide +kernel
theorem dX8_delay_0 : decode cX8_delay 0 = .ok (.aload_n 0, 1) := by decide +kernel
theorem dX8_delay_1 : decode cX8_delay 1 = .ok (.iload_n 1, 1) := by decide +kernel
theorem dX8_delay_2 : decode cX8_delay 2 = .ok (.invokevirtual 118, 3) := by decide +kernel
theorem dX8_delay_5 : decode cX8_delay 5 = .ok (.ifCond .eq 27, 3) := by decide +kernel
theorem dX8_delay_8 : decode cX8_delay 8 = .ok (.iload_n 2, 1) := by decide +kernel
theorem dX8_delay_9 : decode cX8_delay 9 = .ok (.iconst 0, 1) := by decide +kernel
theorem dX8_delay_10 : decode cX8_delay 10 = .ok (.aload_n 0, 1) := by decide +kernel
theorem dX8_delay_11 : decode cX8_delay 11 = .ok (.getfield 105, 3) := by decide +kernel
theorem dX8_delay_14 : decode cX8_delay 14 = .ok (.iconst 1, 1) := by decide +kernel
theorem dX8_delay_15 : decode cX8_delay 15 = .ok (.isub, 1) := by decide +kernel
theorem dX8_delay_16 : decode cX8_delay 16 = .ok (.invokestatic 111, 3) := by decide +kernel
theorem dX8_delay_19 : decode cX8_delay 19 = .ok (.ifCond .eq 13, 3) := by decide +kernel
theorem dX8_delay_22 : decode cX8_delay 22 = .ok (.iload_n 3, 1) := by decide +kernel
theorem dX8_delay_23 : decode cX8_delay 23 = .ok (.iconst 0, 1) := by decide +kernel
theorem dX8_delay_24 : decode cX8_delay 24 = .ok (.bipush 60, 2) := by decide +kernel
theorem dX8_delay_26 : decode cX8_delay 26 = .ok (.invokestatic 111, 3) := by decide +kernel
theorem dX8_delay_29 : decode cX8_delay 29 = .ok (.ifCond .ne 5, 3) := by decide +kernel
theorem dX8_delay_32 : decode cX8_delay 32 = .ok (.iconst 0, 1) := by decide +kernel
theorem dX8_delay_33 : decode cX8_delay 33 = .ok (.ireturn, 1) := by decide +kernel
theorem dX8_delay_34 : decode cX8_delay 34 = .ok (.aload_n 0, 1) := by decide +kernel
theorem dX8_delay_35 : decode cX8_delay 35 = .ok (.getfield 66, 3) := by decide +kernel
theorem dX8_delay_38 : decode cX8_delay 38 = .ok (.bipush 8, 2) := by decide +kernel
theorem dX8_delay_40 : decode cX8_delay 40 = .ok (.iload_n 1, 1) := by decide +kernel
theorem dX8_delay_41 : decode cX8_delay 41 = .ok (.imul, 1) := by decide +kernel
theorem dX8_delay_42 : decode cX8_delay 42 = .ok (.iload_n 2, 1) := by decide +kernel
theorem dX8_delay_43 : decode cX8_delay 43 = .ok (.iadd, 1) := by decide +kernel
theorem dX8_delay_44 : decode cX8_delay 44 = .ok (.iload_n 3, 1) := by decide +kernel
theorem dX8_delay_45 : decode cX8_delay 45 = .ok (.iastore, 1) := by decide +kernel
theorem dX8_delay_46 : decode cX8_delay 46 = .ok (.iconst 1, 1) := by decide +kernel
theorem dX8_delay_47 : decode cX8_delay 47 = .ok (.ireturn, 1) := by decide +kernel
theorem dX8_runs_0 : decode cX8_runs 0 = .ok (.aload_n 0, 1) := by decide +kernel
theorem dX8_runs_1 : decode cX8_runs 1 = .ok (.invokevirtual 175, 3) := by decide +kernel
theorem dX8_runs_4 : decode cX8_runs 4 = .ok (.iconst 0, 1) := by decide +kernel
theorem dX8_runs_5 : decode cX8_runs 5 = .ok (.istore_n 1, 1) := by decide +kernel
theorem dX8_runs_6 : decode cX8_runs 6 = .ok (.iload_n 1, 1) := by decide +kernel
theorem dX8_runs_7 : decode cX8_runs 7 = .ok (.aload_n 0, 1) := by decide +kernel
theorem dX8_runs_8 : decode cX8_runs 8 = .ok (.getfield 108, 3) := by decide +kernel
theorem dX8_runs_11 : decode cX8_runs 11 = .ok (.if_icmp .ge 120, 3) := by decide +kernel
theorem dX8_runs_14 : decode cX8_runs 14 = .ok (.aload_n 0, 1) := by decide +kernel
theorem dX8_runs_15 : decode cX8_runs 15 = .ok (.getfield 81, 3) := by decide +kernel
theorem dX8_runs_18 : decode cX8_runs 18 = .ok (.iload_n 1, 1) := by decide +kernel
theorem dX8_runs_19 : decode cX8_runs 19 = .ok (.iconst 0, 1) := by decide +kernel
theorem dX8_runs_20 : decode cX8_runs 20 = .ok (.iastore, 1) := by decide +kernel
theorem dX8_runs_21 : decode cX8_runs 21 = .ok (.aload_n 0, 1) := by decide +kernel
theorem dX8_runs_22 : decode cX8_runs 22 = .ok (.getfield 84, 3) := by decide +kernel
theorem dX8_runs_25 : decode cX8_runs 25 = .ok (.iload_n 1, 1) := by decide +kernel
theorem dX8_runs_26 : decode cX8_runs 26 = .ok (.iconst 0, 1) := by decide +kernel
theorem dX8_runs_27 : decode cX8_runs 27 = .ok (.iastore, 1) := by decide +kernel
theorem dX8_runs_28 : decode cX8_runs 28 = .ok (.aload_n 0, 1) := by decide +kernel
theorem dX8_runs_29 : decode cX8_runs 29 = .ok (.getfield 87, 3) := by decide +kernel
theorem dX8_runs_32 : decode cX8_runs 32 = .ok (.iload_n 1, 1) := by decide +kernel
theorem dX8_runs_33 : decode cX8_runs 33 = .ok (.iconst (-1), 1) := by decide +kernel
theorem dX8_runs_34 : decode cX8_runs 34 = .ok (.iastore, 1) := by decide +kernel
theorem dX8_runs_35 : decode cX8_runs 35 = .ok (.aload_n 0, 1) := by decide +kernel
theorem dX8_runs_36 : decode cX8_runs 36 = .ok (.getfield 96, 3) := by decide +kernel
theorem dX8_runs_39 : decode cX8_runs 39 = .ok (.iload_n 1, 1) := by decide +kernel
theorem dX8_runs_40 : decode cX8_runs 40 = .ok (.iconst 0, 1) := by decide +kernel
theorem dX8_runs_41 : decode cX8_runs 41 = .ok (.iastore, 1) := by decide +kernel
theorem dX8_runs_42 : decode cX8_runs 42 = .ok (.aload_n 0, 1) := by decide +kernel
theorem dX8_runs_43 : decode cX8_runs 43 = .ok (.getfield 99, 3) := by decide +kernel
theorem dX8_runs_46 : decode cX8_runs 46 = .ok (.iload_n 1, 1) := by decide +kernel
theorem dX8_runs_47 : decode cX8_runs 47 = .ok (.iconst 0, 1) := by decide +kernel
theorem dX8_runs_48 : decode cX8_runs 48 = .ok (.iastore, 1) := by decide +kernel
theorem dX8_runs_49 : decode cX8_runs 49 = .ok (.iconst 0, 1) := by decide +kernel
theorem dX8_runs_50 : decode cX8_runs 50 = .ok (.istore_n 2, 1) := by decide +kernel
theorem dX8_runs_51 : decode cX8_runs 51 = .ok (.iload_n 2, 1) := by decide +kernel
theorem dX8_runs_52 : decode cX8_runs 52 = .ok (.aload_n 0, 1) := by decide +kernel
theorem dX8_runs_53 : decode cX8_runs 53 = .ok (.getfield 108, 3) := by decide +kernel
theorem dX8_runs_56 : decode cX8_runs 56 = .ok (.if_icmp .ge 21, 3) := by decide +kernel
theorem dX8_runs_59 : decode cX8_runs 59 = .ok (.aload_n 0, 1) := by decide +kernel
theorem dX8_runs_60 : decode cX8_runs 60 = .ok (.getfield 102, 3) := by decide +kernel
theorem dX8_runs_63 : decode cX8_runs 63 = .ok (.bipush 16, 2) := by decide +kernel
theorem dX8_runs_65 : decode cX8_runs 65 = .ok (.iload_n 1, 1) := by decide +kernel
theorem dX8_runs_66 : decode cX8_runs 66 = .ok (.imul, 1) := by decide +kernel
theorem dX8_runs_67 : decode cX8_runs 67 = .ok (.iload_n 2, 1) := by decide +kernel
theorem dX8_runs_68 : decode cX8_runs 68 = .ok (.iadd, 1) := by decide +kernel
theorem dX8_runs_69 : decode cX8_runs 69 = .ok (.iconst 0, 1) := by decide +kernel
theorem dX8_runs_70 : decode cX8_runs 70 = .ok (.iastore, 1) := by decide +kernel
theorem dX8_runs_71 : decode cX8_runs 71 = .ok (.iinc 2 1, 3) := by decide +kernel
theorem dX8_runs_74 : decode cX8_runs 74 = .ok (.goto (-23), 3) := by decide +kernel
theorem dX8_runs_77 : decode cX8_runs 77 = .ok (.iconst 0, 1) := by decide +kernel
theorem dX8_runs_78 : decode cX8_runs 78 = .ok (.istore_n 2, 1) := by decide +kernel
theorem dX8_runs_79 : decode cX8_runs 79 = .ok (.iload_n 2, 1) := by decide +kernel
theorem dX8_runs_80 : decode cX8_runs 80 = .ok (.bipush 8, 2) := by decide +kernel
theorem dX8_runs_82 : decode cX8_runs 82 = .ok (.if_icmp .ge 43, 3) := by decide +kernel
theorem dX8_runs_85 : decode cX8_runs 85 = .ok (.aload_n 0, 1) := by decide +kernel
theorem dX8_runs_86 : decode cX8_runs 86 = .ok (.getfield 90, 3) := by decide +kernel
theorem dX8_runs_89 : decode cX8_runs 89 = .ok (.bipush 8, 2) := by decide +kernel
theorem dX8_runs_91 : decode cX8_runs 91 = .ok (.iload_n 1, 1) := by decide +kernel
theorem dX8_runs_92 : decode cX8_runs 92 = .ok (.imul, 1) := by decide +kernel
theorem dX8_runs_93 : decode cX8_runs 93 = .ok (.iload_n 2, 1) := by decide +kernel
theorem dX8_runs_94 : decode cX8_runs 94 = .ok (.iadd, 1) := by decide +kernel
theorem dX8_runs_95 : decode cX8_runs 95 = .ok (.aload_n 0, 1) := by decide +kernel
theorem dX8_runs_96 : decode cX8_runs 96 = .ok (.getfield 66, 3) := by decide +kernel
theorem dX8_runs_99 : decode cX8_runs 99 = .ok (.bipush 8, 2) := by decide +kernel
theorem dX8_runs_101 : decode cX8_runs 101 = .ok (.iload_n 1, 1) := by decide +kernel
theorem dX8_runs_102 : decode cX8_runs 102 = .ok (.imul, 1) := by decide +kernel
theorem dX8_runs_103 : decode cX8_runs 103 = .ok (.iload_n 2, 1) := by decide +kernel
theorem dX8_runs_104 : decode cX8_runs 104 = .ok (.iadd, 1) := by decide +kernel
theorem dX8_runs_105 : decode cX8_runs 105 = .ok (.iaload, 1) := by decide +kernel
theorem dX8_runs_106 : decode cX8_runs 106 = .ok (.iastore, 1) := by decide +kernel
theorem dX8_runs_107 : decode cX8_runs 107 = .ok (.aload_n 0, 1) := by decide +kernel
theorem dX8_runs_108 : decode cX8_runs 108 = .ok (.getfield 93, 3) := by decide +kernel
theorem dX8_runs_111 : decode cX8_runs 111 = .ok (.bipush 8, 2) := by decide +kernel
theorem dX8_runs_113 : decode cX8_runs 113 = .ok (.iload_n 1, 1) := by decide +kernel
theorem dX8_runs_114 : decode cX8_runs 114 = .ok (.imul, 1) := by decide +kernel
theorem dX8_runs_115 : decode cX8_runs 115 = .ok (.iload_n 2, 1) := by decide +kernel
theorem dX8_runs_116 : decode cX8_runs 116 = .ok (.iadd, 1) := by decide +kernel
theorem dX8_runs_117 : decode cX8_runs 117 = .ok (.iconst (-1), 1) := by decide +kernel
theorem dX8_runs_118 : decode cX8_runs 118 = .ok (.iastore, 1) := by decide +kernel
theorem dX8_runs_119 : decode cX8_runs 119 = .ok (.iinc 2 1, 3) := by decide +kernel
theorem dX8_runs_122 : decode cX8_runs 122 = .ok (.goto (-43), 3) := by decide +kernel
theorem dX8_runs_125 : decode cX8_runs 125 = .ok (.iinc 1 1, 3) := by decide +kernel
theorem dX8_runs_128 : decode cX8_runs 128 = .ok (.goto (-122), 3) := by decide +kernel
theorem dX8_runs_131 : decode cX8_runs 131 = .ok (.iconst 0, 1) := by decide +kernel
theorem dX8_runs_132 : decode cX8_runs 132 = .ok (.istore_n 1, 1) := by decide +kernel
theorem dX8_runs_133 : decode cX8_runs 133 = .ok (.iload_n 1, 1) := by decide +kernel
theorem dX8_runs_134 : decode cX8_runs 134 = .ok (.sipush 480, 3) := by decide +kernel
theorem dX8_runs_137 : decode cX8_runs 137 = .ok (.if_icmp .ge 50, 3) := by decide +kernel
theorem dX8_runs_140 : decode cX8_runs 140 = .ok (.iconst 0, 1) := by decide +kernel
theorem dX8_runs_141 : decode cX8_runs 141 = .ok (.istore_n 2, 1) := by decide +kernel
theorem dX8_runs_142 : decode cX8_runs 142 = .ok (.iload_n 2, 1) := by decide +kernel
theorem dX8_runs_143 : decode cX8_runs 143 = .ok (.aload_n 0, 1) := by decide +kernel
theorem dX8_runs_144 : decode cX8_runs 144 = .ok (.getfield 108, 3) := by decide +kernel
theorem dX8_runs_147 : decode cX8_runs 147 = .ok (.if_icmp .ge 34, 3) := by decide +kernel
theorem dX8_runs_150 : decode cX8_runs 150 = .ok (.aload_n 0, 1) := by decide +kernel
theorem dX8_runs_151 : decode cX8_runs 151 = .ok (.getfield 60, 3) := by decide +kernel
theorem dX8_runs_154 : decode cX8_runs 154 = .ok (.aload_n 0, 1) := by decide +kernel
theorem dX8_runs_155 : decode cX8_runs 155 = .ok (.getfield 75, 3) := by decide +kernel
theorem dX8_runs_158 : decode cX8_runs 158 = .ok (.iload_n 2, 1) := by decide +kernel
theorem dX8_runs_159 : decode cX8_runs 159 = .ok (.iaload, 1) := by decide +kernel
theorem dX8_runs_160 : decode cX8_runs 160 = .ok (.baload, 1) := by decide +kernel
theorem dX8_runs_161 : decode cX8_runs 161 = .ok (.ifCond .eq 14, 3) := by decide +kernel
theorem dX8_runs_164 : decode cX8_runs 164 = .ok (.aload_n 0, 1) := by decide +kernel
theorem dX8_runs_165 : decode cX8_runs 165 = .ok (.aload_n 0, 1) := by decide +kernel
theorem dX8_runs_166 : decode cX8_runs 166 = .ok (.getfield 75, 3) := by decide +kernel
theorem dX8_runs_169 : decode cX8_runs 169 = .ok (.iload_n 2, 1) := by decide +kernel
theorem dX8_runs_170 : decode cX8_runs 170 = .ok (.iaload, 1) := by decide +kernel
theorem dX8_runs_171 : decode cX8_runs 171 = .ok (.iload_n 1, 1) := by decide +kernel
theorem dX8_runs_172 : decode cX8_runs 172 = .ok (.invokevirtual 197, 3) := by decide +kernel
theorem dX8_runs_175 : decode cX8_runs 175 = .ok (.iinc 2 1, 3) := by decide +kernel
theorem dX8_runs_178 : decode cX8_runs 178 = .ok (.goto (-36), 3) := by decide +kernel
theorem dX8_runs_181 : decode cX8_runs 181 = .ok (.iinc 1 1, 3) := by decide +kernel
theorem dX8_runs_184 : decode cX8_runs 184 = .ok (.goto (-51), 3) := by decide +kernel
theorem dX8_runs_187 : decode cX8_runs 187 = .ok (.return_, 1) := by decide +kernel
theorem dX8_holder_0 : decode cX8_holder 0 = .ok (.iconst 0, 1) := by decide +kernel
theorem dX8_holder_1 : decode cX8_holder 1 = .ok (.istore 4, 2) := by decide +kernel
theorem dX8_holder_3 : decode cX8_holder 3 = .ok (.iload 4, 2) := by decide +kernel
theorem dX8_holder_5 : decode cX8_holder 5 = .ok (.aload_n 0, 1) := by decide +kernel
theorem dX8_holder_6 : decode cX8_holder 6 = .ok (.getfield 108, 3) := by decide +kernel
theorem dX8_holder_9 : decode cX8_holder 9 = .ok (.if_icmp .ge 118, 3) := by decide +kernel
theorem dX8_holder_12 : decode cX8_holder 12 = .ok (.iload 4, 2) := by decide +kernel
theorem dX8_holder_14 : decode cX8_holder 14 = .ok (.iload_n 1, 1) := by decide +kernel
theorem dX8_holder_15 : decode cX8_holder 15 = .ok (.if_icmp .eq 32, 3) := by decide +kernel
theorem dX8_holder_18 : decode cX8_holder 18 = .ok (.aload_n 0, 1) := by decide +kernel
theorem dX8_holder_19 : decode cX8_holder 19 = .ok (.getfield 60, 3) := by decide +kernel
theorem dX8_holder_22 : decode cX8_holder 22 = .ok (.iload 4, 2) := by decide +kernel
theorem dX8_holder_24 : decode cX8_holder 24 = .ok (.baload, 1) := by decide +kernel
theorem dX8_holder_25 : decode cX8_holder 25 = .ok (.ifCond .eq 22, 3) := by decide +kernel
theorem dX8_holder_28 : decode cX8_holder 28 = .ok (.aload_n 0, 1) := by decide +kernel
theorem dX8_holder_29 : decode cX8_holder 29 = .ok (.getfield 9, 3) := by decide +kernel
theorem dX8_holder_32 : decode cX8_holder 32 = .ok (.iload_n 2, 1) := by decide +kernel
theorem dX8_holder_33 : decode cX8_holder 33 = .ok (.baload, 1) := by decide +kernel
theorem dX8_holder_34 : decode cX8_holder 34 = .ok (.ifCond .eq 17, 3) := by decide +kernel
theorem dX8_holder_37 : decode cX8_holder 37 = .ok (.aload_n 0, 1) := by decide +kernel
theorem dX8_holder_38 : decode cX8_holder 38 = .ok (.iload 4, 2) := by decide +kernel
theorem dX8_holder_40 : decode cX8_holder 40 = .ok (.iload_n 1, 1) := by decide +kernel
theorem dX8_holder_41 : decode cX8_holder 41 = .ok (.invokevirtual 141, 3) := by decide +kernel
theorem dX8_holder_44 : decode cX8_holder 44 = .ok (.ifCond .ne 7, 3) := by decide +kernel
theorem dX8_holder_47 : decode cX8_holder 47 = .ok (.iconst (-1), 1) := by decide +kernel
theorem dX8_holder_48 : decode cX8_holder 48 = .ok (.goto 10, 3) := by decide +kernel
theorem dX8_holder_51 : decode cX8_holder 51 = .ok (.aload_n 0, 1) := by decide +kernel
theorem dX8_holder_52 : decode cX8_holder 52 = .ok (.iload 4, 2) := by decide +kernel
theorem dX8_holder_54 : decode cX8_holder 54 = .ok (.iload_n 2, 1) := by decide +kernel
theorem dX8_holder_55 : decode cX8_holder 55 = .ok (.invokevirtual 144, 3) := by decide +kernel
theorem dX8_holder_58 : decode cX8_holder 58 = .ok (.istore 5, 2) := by decide +kernel
theorem dX8_holder_60 : decode cX8_holder 60 = .ok (.iload 5, 2) := by decide +kernel
theorem dX8_holder_62 : decode cX8_holder 62 = .ok (.iconst (-1), 1) := by decide +kernel
theorem dX8_holder_63 : decode cX8_holder 63 = .ok (.if_icmp .ne 7, 3) := by decide +kernel
theorem dX8_holder_66 : decode cX8_holder 66 = .ok (.iconst (-1), 1) := by decide +kernel
theorem dX8_holder_67 : decode cX8_holder 67 = .ok (.goto 16, 3) := by decide +kernel
theorem dX8_holder_70 : decode cX8_holder 70 = .ok (.aload_n 0, 1) := by decide +kernel
theorem dX8_holder_71 : decode cX8_holder 71 = .ok (.getfield 93, 3) := by decide +kernel
theorem dX8_holder_74 : decode cX8_holder 74 = .ok (.bipush 8, 2) := by decide +kernel
theorem dX8_holder_76 : decode cX8_holder 76 = .ok (.iload 4, 2) := by decide +kernel
theorem dX8_holder_78 : decode cX8_holder 78 = .ok (.imul, 1) := by decide +kernel
theorem dX8_holder_79 : decode cX8_holder 79 = .ok (.iload 5, 2) := by decide +kernel
theorem dX8_holder_81 : decode cX8_holder 81 = .ok (.iadd, 1) := by decide +kernel
theorem dX8_holder_82 : decode cX8_holder 82 = .ok (.iaload, 1) := by decide +kernel
theorem dX8_holder_83 : decode cX8_holder 83 = .ok (.istore 6, 2) := by decide +kernel
theorem dX8_holder_85 : decode cX8_holder 85 = .ok (.iload 6, 2) := by decide +kernel
theorem dX8_holder_87 : decode cX8_holder 87 = .ok (.iconst (-1), 1) := by decide +kernel
theorem dX8_holder_88 : decode cX8_holder 88 = .ok (.if_icmp .eq 33, 3) := by decide +kernel
theorem dX8_holder_91 : decode cX8_holder 91 = .ok (.iload_n 3, 1) := by decide +kernel
theorem dX8_holder_92 : decode cX8_holder 92 = .ok (.iload 6, 2) := by decide +kernel
theorem dX8_holder_94 : decode cX8_holder 94 = .ok (.iload 6, 2) := by decide +kernel
theorem dX8_holder_96 : decode cX8_holder 96 = .ok (.aload_n 0, 1) := by decide +kernel
theorem dX8_holder_97 : decode cX8_holder 97 = .ok (.iload 4, 2) := by decide +kernel
theorem dX8_holder_99 : decode cX8_holder 99 = .ok (.iload 5, 2) := by decide +kernel
theorem dX8_holder_101 : decode cX8_holder 101 = .ok (.invokevirtual 134, 3) := by decide +kernel
theorem dX8_holder_104 : decode cX8_holder 104 = .ok (.iadd, 1) := by decide +kernel
theorem dX8_holder_105 : decode cX8_holder 105 = .ok (.iconst 1, 1) := by decide +kernel
theorem dX8_holder_106 : decode cX8_holder 106 = .ok (.isub, 1) := by decide +kernel
theorem dX8_holder_107 : decode cX8_holder 107 = .ok (.aload_n 0, 1) := by decide +kernel
theorem dX8_holder_108 : decode cX8_holder 108 = .ok (.invokevirtual 130, 3) := by decide +kernel
theorem dX8_holder_111 : decode cX8_holder 111 = .ok (.iadd, 1) := by decide +kernel
theorem dX8_holder_112 : decode cX8_holder 112 = .ok (.invokestatic 111, 3) := by decide +kernel
theorem dX8_holder_115 : decode cX8_holder 115 = .ok (.ifCond .eq 6, 3) := by decide +kernel
theorem dX8_holder_118 : decode cX8_holder 118 = .ok (.iload 4, 2) := by decide +kernel
theorem dX8_holder_120 : decode cX8_holder 120 = .ok (.ireturn, 1) := by decide +kernel
theorem dX8_holder_121 : decode cX8_holder 121 = .ok (.iinc 4 1, 3) := by decide +kernel
theorem dX8_holder_124 : decode cX8_holder 124 = .ok (.goto (-121), 3) := by decide +kernel
theorem dX8_holder_127 : decode cX8_holder 127 = .ok (.iconst (-1), 1) := by decide +kernel
theorem dX8_holder_128 : decode cX8_holder 128 = .ok (.ireturn, 1) := by decide +kernel
theorem dX8_steps_0 : decode cX8_steps 0 = .ok (.iload_n 2, 1) := by decide +kernel
theorem dX8_steps_1 : decode cX8_steps 1 = .ok (.aload_n 0, 1) := by decide +kernel
theorem dX8_steps_2 : decode cX8_steps 2 = .ok (.getfield 84, 3) := by decide +kernel
theorem dX8_steps_5 : decode cX8_steps 5 = .ok (.iload_n 1, 1) := by decide +kernel
theorem dX8_steps_6 : decode cX8_steps 6 = .ok (.iaload, 1) := by decide +kernel
theorem dX8_steps_7 : decode cX8_steps 7 = .ok (.if_icmp .ge 4, 3) := by decide +kernel
theorem dX8_steps_10 : decode cX8_steps 10 = .ok (.return_, 1) := by decide +kernel
theorem dX8_steps_11 : decode cX8_steps 11 = .ok (.aload_n 0, 1) := by decide +kernel
theorem dX8_steps_12 : decode cX8_steps 12 = .ok (.getfield 81, 3) := by decide +kernel
theorem dX8_steps_15 : decode cX8_steps 15 = .ok (.iload_n 1, 1) := by decide +kernel
theorem dX8_steps_16 : decode cX8_steps 16 = .ok (.iaload, 1) := by decide +kernel
theorem dX8_steps_17 : decode cX8_steps 17 = .ok (.istore_n 3, 1) := by decide +kernel
theorem dX8_steps_18 : decode cX8_steps 18 = .ok (.iload_n 3, 1) := by decide +kernel
theorem dX8_steps_19 : decode cX8_steps 19 = .ok (.aload_n 0, 1) := by decide +kernel
theorem dX8_steps_20 : decode cX8_steps 20 = .ok (.iload_n 1, 1) := by decide +kernel
theorem dX8_steps_21 : decode cX8_steps 21 = .ok (.invokevirtual 126, 3) := by decide +kernel
theorem dX8_steps_24 : decode cX8_steps 24 = .ok (.if_icmp .ne 26, 3) := by decide +kernel
theorem dX8_steps_27 : decode cX8_steps 27 = .ok (.aload_n 0, 1) := by decide +kernel
theorem dX8_steps_28 : decode cX8_steps 28 = .ok (.getfield 87, 3) := by decide +kernel
theorem dX8_steps_31 : decode cX8_steps 31 = .ok (.iload_n 1, 1) := by decide +kernel
theorem dX8_steps_32 : decode cX8_steps 32 = .ok (.iaload, 1) := by decide +kernel
theorem dX8_steps_33 : decode cX8_steps 33 = .ok (.iconst (-1), 1) := by decide +kernel
theorem dX8_steps_34 : decode cX8_steps 34 = .ok (.if_icmp .ne 15, 3) := by decide +kernel
theorem dX8_steps_37 : decode cX8_steps 37 = .ok (.aload_n 0, 1) := by decide +kernel
theorem dX8_steps_38 : decode cX8_steps 38 = .ok (.getfield 87, 3) := by decide +kernel
theorem dX8_steps_41 : decode cX8_steps 41 = .ok (.iload_n 1, 1) := by decide +kernel
theorem dX8_steps_42 : decode cX8_steps 42 = .ok (.aload_n 0, 1) := by decide +kernel
theorem dX8_steps_43 : decode cX8_steps 43 = .ok (.getfield 84, 3) := by decide +kernel
theorem dX8_steps_46 : decode cX8_steps 46 = .ok (.iload_n 1, 1) := by decide +kernel
theorem dX8_steps_47 : decode cX8_steps 47 = .ok (.iaload, 1) := by decide +kernel
theorem dX8_steps_48 : decode cX8_steps 48 = .ok (.iastore, 1) := by decide +kernel
theorem dX8_steps_49 : decode cX8_steps 49 = .ok (.return_, 1) := by decide +kernel
theorem dX8_steps_50 : decode cX8_steps 50 = .ok (.aload_n 0, 1) := by decide +kernel
theorem dX8_steps_51 : decode cX8_steps 51 = .ok (.getfield 63, 3) := by decide +kernel
theorem dX8_steps_54 : decode cX8_steps 54 = .ok (.bipush 8, 2) := by decide +kernel
theorem dX8_steps_56 : decode cX8_steps 56 = .ok (.iload_n 1, 1) := by decide +kernel
theorem dX8_steps_57 : decode cX8_steps 57 = .ok (.imul, 1) := by decide +kernel
theorem dX8_steps_58 : decode cX8_steps 58 = .ok (.iload_n 3, 1) := by decide +kernel
theorem dX8_steps_59 : decode cX8_steps 59 = .ok (.iadd, 1) := by decide +kernel
theorem dX8_steps_60 : decode cX8_steps 60 = .ok (.iaload, 1) := by decide +kernel
theorem dX8_steps_61 : decode cX8_steps 61 = .ok (.iload_n 2, 1) := by decide +kernel
theorem dX8_steps_62 : decode cX8_steps 62 = .ok (.if_icmp .le 4, 3) := by decide +kernel
theorem dX8_steps_65 : decode cX8_steps 65 = .ok (.return_, 1) := by decide +kernel
theorem dX8_steps_66 : decode cX8_steps 66 = .ok (.aload_n 0, 1) := by decide +kernel
theorem dX8_steps_67 : decode cX8_steps 67 = .ok (.iload_n 1, 1) := by decide +kernel
theorem dX8_steps_68 : decode cX8_steps 68 = .ok (.iload_n 3, 1) := by decide +kernel
theorem dX8_steps_69 : decode cX8_steps 69 = .ok (.invokevirtual 122, 3) := by decide +kernel
theorem dX8_steps_72 : decode cX8_steps 72 = .ok (.istore 4, 2) := by decide +kernel
theorem dX8_steps_74 : decode cX8_steps 74 = .ok (.bipush 8, 2) := by decide +kernel
theorem dX8_steps_76 : decode cX8_steps 76 = .ok (.iload_n 1, 1) := by decide +kernel
theorem dX8_steps_77 : decode cX8_steps 77 = .ok (.imul, 1) := by decide +kernel
theorem dX8_steps_78 : decode cX8_steps 78 = .ok (.aload_n 0, 1) := by decide +kernel
theorem dX8_steps_79 : decode cX8_steps 79 = .ok (.iload_n 1, 1) := by decide +kernel
theorem dX8_steps_80 : decode cX8_steps 80 = .ok (.iload_n 3, 1) := by decide +kernel
theorem dX8_steps_81 : decode cX8_steps 81 = .ok (.invokevirtual 151, 3) := by decide +kernel
theorem dX8_steps_84 : decode cX8_steps 84 = .ok (.iadd, 1) := by decide +kernel
theorem dX8_steps_85 : decode cX8_steps 85 = .ok (.istore 5, 2) := by decide +kernel
theorem dX8_steps_87 : decode cX8_steps 87 = .ok (.aload_n 0, 1) := by decide +kernel
theorem dX8_steps_88 : decode cX8_steps 88 = .ok (.iload_n 1, 1) := by decide +kernel
theorem dX8_steps_89 : decode cX8_steps 89 = .ok (.iload 4, 2) := by decide +kernel
theorem dX8_steps_91 : decode cX8_steps 91 = .ok (.iload_n 2, 1) := by decide +kernel
theorem dX8_steps_92 : decode cX8_steps 92 = .ok (.invokevirtual 201, 3) := by decide +kernel
theorem dX8_steps_95 : decode cX8_steps 95 = .ok (.istore 6, 2) := by decide +kernel
theorem dX8_steps_97 : decode cX8_steps 97 = .ok (.aload_n 0, 1) := by decide +kernel
theorem dX8_steps_98 : decode cX8_steps 98 = .ok (.getfield 90, 3) := by decide +kernel
theorem dX8_steps_101 : decode cX8_steps 101 = .ok (.iload 5, 2) := by decide +kernel
theorem dX8_steps_103 : decode cX8_steps 103 = .ok (.iaload, 1) := by decide +kernel
theorem dX8_steps_104 : decode cX8_steps 104 = .ok (.ifCond .le 27, 3) := by decide +kernel
theorem dX8_steps_107 : decode cX8_steps 107 = .ok (.aload_n 0, 1) := by decide +kernel
theorem dX8_steps_108 : decode cX8_steps 108 = .ok (.getfield 90, 3) := by decide +kernel
theorem dX8_steps_111 : decode cX8_steps 111 = .ok (.iload 5, 2) := by decide +kernel
theorem dX8_steps_113 : decode cX8_steps 113 = .ok (.dup2, 1) := by decide +kernel
theorem dX8_steps_114 : decode cX8_steps 114 = .ok (.iaload, 1) := by decide +kernel
theorem dX8_steps_115 : decode cX8_steps 115 = .ok (.iconst 1, 1) := by decide +kernel
theorem dX8_steps_116 : decode cX8_steps 116 = .ok (.isub, 1) := by decide +kernel
theorem dX8_steps_117 : decode cX8_steps 117 = .ok (.iastore, 1) := by decide +kernel
theorem dX8_steps_118 : decode cX8_steps 118 = .ok (.aload_n 0, 1) := by decide +kernel
theorem dX8_steps_119 : decode cX8_steps 119 = .ok (.getfield 96, 3) := by decide +kernel
theorem dX8_steps_122 : decode cX8_steps 122 = .ok (.iload_n 1, 1) := by decide +kernel
theorem dX8_steps_123 : decode cX8_steps 123 = .ok (.dup2, 1) := by decide +kernel
theorem dX8_steps_124 : decode cX8_steps 124 = .ok (.iaload, 1) := by decide +kernel
theorem dX8_steps_125 : decode cX8_steps 125 = .ok (.iconst 1, 1) := by decide +kernel
theorem dX8_steps_126 : decode cX8_steps 126 = .ok (.iadd, 1) := by decide +kernel
theorem dX8_steps_127 : decode cX8_steps 127 = .ok (.iastore, 1) := by decide +kernel
theorem dX8_steps_128 : decode cX8_steps 128 = .ok (.goto 86, 3) := by decide +kernel
theorem dX8_steps_131 : decode cX8_steps 131 = .ok (.aload_n 0, 1) := by decide +kernel
theorem dX8_steps_132 : decode cX8_steps 132 = .ok (.iload 4, 2) := by decide +kernel
theorem dX8_steps_134 : decode cX8_steps 134 = .ok (.iload_n 2, 1) := by decide +kernel
theorem dX8_steps_135 : decode cX8_steps 135 = .ok (.invokevirtual 137, 3) := by decide +kernel
theorem dX8_steps_138 : decode cX8_steps 138 = .ok (.ifCond .eq 16, 3) := by decide +kernel
theorem dX8_steps_141 : decode cX8_steps 141 = .ok (.aload_n 0, 1) := by decide +kernel
theorem dX8_steps_142 : decode cX8_steps 142 = .ok (.getfield 99, 3) := by decide +kernel
theorem dX8_steps_145 : decode cX8_steps 145 = .ok (.iload_n 1, 1) := by decide +kernel
theorem dX8_steps_146 : decode cX8_steps 146 = .ok (.dup2, 1) := by decide +kernel
theorem dX8_steps_147 : decode cX8_steps 147 = .ok (.iaload, 1) := by decide +kernel
theorem dX8_steps_148 : decode cX8_steps 148 = .ok (.iconst 1, 1) := by decide +kernel
theorem dX8_steps_149 : decode cX8_steps 149 = .ok (.iadd, 1) := by decide +kernel
theorem dX8_steps_150 : decode cX8_steps 150 = .ok (.iastore, 1) := by decide +kernel
theorem dX8_steps_151 : decode cX8_steps 151 = .ok (.goto 63, 3) := by decide +kernel
theorem dX8_steps_154 : decode cX8_steps 154 = .ok (.iload 6, 2) := by decide +kernel
theorem dX8_steps_156 : decode cX8_steps 156 = .ok (.iconst (-1), 1) := by decide +kernel
theorem dX8_steps_157 : decode cX8_steps 157 = .ok (.if_icmp .eq 22, 3) := by decide +kernel
theorem dX8_steps_160 : decode cX8_steps 160 = .ok (.aload_n 0, 1) := by decide +kernel
theorem dX8_steps_161 : decode cX8_steps 161 = .ok (.getfield 102, 3) := by decide +kernel
theorem dX8_steps_164 : decode cX8_steps 164 = .ok (.bipush 16, 2) := by decide +kernel
theorem dX8_steps_166 : decode cX8_steps 166 = .ok (.iload_n 1, 1) := by decide +kernel
theorem dX8_steps_167 : decode cX8_steps 167 = .ok (.imul, 1) := by decide +kernel
theorem dX8_steps_168 : decode cX8_steps 168 = .ok (.iload 6, 2) := by decide +kernel
theorem dX8_steps_170 : decode cX8_steps 170 = .ok (.iadd, 1) := by decide +kernel
theorem dX8_steps_171 : decode cX8_steps 171 = .ok (.dup2, 1) := by decide +kernel
theorem dX8_steps_172 : decode cX8_steps 172 = .ok (.iaload, 1) := by decide +kernel
theorem dX8_steps_173 : decode cX8_steps 173 = .ok (.iconst 1, 1) := by decide +kernel
theorem dX8_steps_174 : decode cX8_steps 174 = .ok (.iadd, 1) := by decide +kernel
theorem dX8_steps_175 : decode cX8_steps 175 = .ok (.iastore, 1) := by decide +kernel
theorem dX8_steps_176 : decode cX8_steps 176 = .ok (.goto 38, 3) := by decide +kernel
theorem dX8_steps_179 : decode cX8_steps 179 = .ok (.aload_n 0, 1) := by decide +kernel
theorem dX8_steps_180 : decode cX8_steps 180 = .ok (.getfield 93, 3) := by decide +kernel
theorem dX8_steps_183 : decode cX8_steps 183 = .ok (.bipush 8, 2) := by decide +kernel
theorem dX8_steps_185 : decode cX8_steps 185 = .ok (.iload_n 1, 1) := by decide +kernel
theorem dX8_steps_186 : decode cX8_steps 186 = .ok (.imul, 1) := by decide +kernel
theorem dX8_steps_187 : decode cX8_steps 187 = .ok (.iload_n 3, 1) := by decide +kernel
theorem dX8_steps_188 : decode cX8_steps 188 = .ok (.iadd, 1) := by decide +kernel
theorem dX8_steps_189 : decode cX8_steps 189 = .ok (.iload_n 2, 1) := by decide +kernel
theorem dX8_steps_190 : decode cX8_steps 190 = .ok (.iastore, 1) := by decide +kernel
theorem dX8_steps_191 : decode cX8_steps 191 = .ok (.aload_n 0, 1) := by decide +kernel
theorem dX8_steps_192 : decode cX8_steps 192 = .ok (.getfield 84, 3) := by decide +kernel
theorem dX8_steps_195 : decode cX8_steps 195 = .ok (.iload_n 1, 1) := by decide +kernel
theorem dX8_steps_196 : decode cX8_steps 196 = .ok (.iload_n 2, 1) := by decide +kernel
theorem dX8_steps_197 : decode cX8_steps 197 = .ok (.aload_n 0, 1) := by decide +kernel
theorem dX8_steps_198 : decode cX8_steps 198 = .ok (.iload_n 1, 1) := by decide +kernel
theorem dX8_steps_199 : decode cX8_steps 199 = .ok (.iload_n 3, 1) := by decide +kernel
theorem dX8_steps_200 : decode cX8_steps 200 = .ok (.invokevirtual 134, 3) := by decide +kernel
theorem dX8_steps_203 : decode cX8_steps 203 = .ok (.iadd, 1) := by decide +kernel
theorem dX8_steps_204 : decode cX8_steps 204 = .ok (.iastore, 1) := by decide +kernel
theorem dX8_steps_205 : decode cX8_steps 205 = .ok (.aload_n 0, 1) := by decide +kernel
theorem dX8_steps_206 : decode cX8_steps 206 = .ok (.getfield 81, 3) := by decide +kernel
theorem dX8_steps_209 : decode cX8_steps 209 = .ok (.iload_n 1, 1) := by decide +kernel
theorem dX8_steps_210 : decode cX8_steps 210 = .ok (.iload_n 3, 1) := by decide +kernel
theorem dX8_steps_211 : decode cX8_steps 211 = .ok (.iconst 1, 1) := by decide +kernel
theorem dX8_steps_212 : decode cX8_steps 212 = .ok (.iadd, 1) := by decide +kernel
theorem dX8_steps_213 : decode cX8_steps 213 = .ok (.iastore, 1) := by decide +kernel
theorem dX8_steps_214 : decode cX8_steps 214 = .ok (.return_, 1) := by decide +kernel
theorem dX8_ran_0 : decode cX8_ran 0 = .ok (.aload_n 0, 1) := by decide +kernel
theorem dX8_ran_1 : decode cX8_ran 1 = .ok (.iload_n 1, 1) := by decide +kernel
theorem dX8_ran_2 : decode cX8_ran 2 = .ok (.invokevirtual 118, 3) := by decide +kernel
theorem dX8_ran_5 : decode cX8_ran 5 = .ok (.ifCond .eq 21, 3) := by decide +kernel
theorem dX8_ran_8 : decode cX8_ran 8 = .ok (.aload_n 0, 1) := by decide +kernel
theorem dX8_ran_9 : decode cX8_ran 9 = .ok (.getfield 60, 3) := by decide +kernel
theorem dX8_ran_12 : decode cX8_ran 12 = .ok (.iload_n 1, 1) := by decide +kernel
theorem dX8_ran_13 : decode cX8_ran 13 = .ok (.baload, 1) := by decide +kernel
theorem dX8_ran_14 : decode cX8_ran 14 = .ok (.ifCond .eq 12, 3) := by decide +kernel
theorem dX8_ran_17 : decode cX8_ran 17 = .ok (.iload_n 2, 1) := by decide +kernel
theorem dX8_ran_18 : decode cX8_ran 18 = .ok (.iconst 0, 1) := by decide +kernel
theorem dX8_ran_19 : decode cX8_ran 19 = .ok (.iconst 5, 1) := by decide +kernel
theorem dX8_ran_20 : decode cX8_ran 20 = .ok (.invokestatic 111, 3) := by decide +kernel
theorem dX8_ran_23 : decode cX8_ran 23 = .ok (.ifCond .ne 5, 3) := by decide +kernel
theorem dX8_ran_26 : decode cX8_ran 26 = .ok (.iconst (-1), 1) := by decide +kernel
theorem dX8_ran_27 : decode cX8_ran 27 = .ok (.ireturn, 1) := by decide +kernel
theorem dX8_ran_28 : decode cX8_ran 28 = .ok (.aload_n 0, 1) := by decide +kernel
theorem dX8_ran_29 : decode cX8_ran 29 = .ok (.invokevirtual 205, 3) := by decide +kernel
theorem dX8_ran_32 : decode cX8_ran 32 = .ok (.aload_n 0, 1) := by decide +kernel
theorem dX8_ran_33 : decode cX8_ran 33 = .ok (.getfield 87, 3) := by decide +kernel
theorem dX8_ran_36 : decode cX8_ran 36 = .ok (.iload_n 1, 1) := by decide +kernel
theorem dX8_ran_37 : decode cX8_ran 37 = .ok (.iaload, 1) := by decide +kernel
theorem dX8_ran_38 : decode cX8_ran 38 = .ok (.iconst (-1), 1) := by decide +kernel
theorem dX8_ran_39 : decode cX8_ran 39 = .ok (.if_icmp .ne 5, 3) := by decide +kernel
theorem dX8_ran_42 : decode cX8_ran 42 = .ok (.iconst (-1), 1) := by decide +kernel
theorem dX8_ran_43 : decode cX8_ran 43 = .ok (.ireturn, 1) := by decide +kernel
theorem dX8_ran_44 : decode cX8_ran 44 = .ok (.aload_n 0, 1) := by decide +kernel
theorem dX8_ran_45 : decode cX8_ran 45 = .ok (.getfield 87, 3) := by decide +kernel
theorem dX8_ran_48 : decode cX8_ran 48 = .ok (.iload_n 1, 1) := by decide +kernel
theorem dX8_ran_49 : decode cX8_ran 49 = .ok (.iaload, 1) := by decide +kernel
theorem dX8_ran_50 : decode cX8_ran 50 = .ok (.aload_n 0, 1) := by decide +kernel
theorem dX8_ran_51 : decode cX8_ran 51 = .ok (.getfield 63, 3) := by decide +kernel
theorem dX8_ran_54 : decode cX8_ran 54 = .ok (.bipush 8, 2) := by decide +kernel
theorem dX8_ran_56 : decode cX8_ran 56 = .ok (.iload_n 1, 1) := by decide +kernel
theorem dX8_ran_57 : decode cX8_ran 57 = .ok (.imul, 1) := by decide +kernel
theorem dX8_ran_58 : decode cX8_ran 58 = .ok (.aload_n 0, 1) := by decide +kernel
theorem dX8_ran_59 : decode cX8_ran 59 = .ok (.iload_n 1, 1) := by decide +kernel
theorem dX8_ran_60 : decode cX8_ran 60 = .ok (.invokevirtual 126, 3) := by decide +kernel
theorem dX8_ran_63 : decode cX8_ran 63 = .ok (.iadd, 1) := by decide +kernel
theorem dX8_ran_64 : decode cX8_ran 64 = .ok (.iaload, 1) := by decide +kernel
theorem dX8_ran_65 : decode cX8_ran 65 = .ok (.isub, 1) := by decide +kernel
theorem dX8_ran_66 : decode cX8_ran 66 = .ok (.istore_n 3, 1) := by decide +kernel
theorem dX8_ran_67 : decode cX8_ran 67 = .ok (.iconst 0, 1) := by decide +kernel
theorem dX8_ran_68 : decode cX8_ran 68 = .ok (.istore 4, 2) := by decide +kernel
theorem dX8_ran_70 : decode cX8_ran 70 = .ok (.iconst 0, 1) := by decide +kernel
theorem dX8_ran_71 : decode cX8_ran 71 = .ok (.istore 5, 2) := by decide +kernel
theorem dX8_ran_73 : decode cX8_ran 73 = .ok (.iload 5, 2) := by decide +kernel
theorem dX8_ran_75 : decode cX8_ran 75 = .ok (.aload_n 0, 1) := by decide +kernel
theorem dX8_ran_76 : decode cX8_ran 76 = .ok (.getfield 108, 3) := by decide +kernel
theorem dX8_ran_79 : decode cX8_ran 79 = .ok (.if_icmp .ge 26, 3) := by decide +kernel
theorem dX8_ran_82 : decode cX8_ran 82 = .ok (.iload 4, 2) := by decide +kernel
theorem dX8_ran_84 : decode cX8_ran 84 = .ok (.aload_n 0, 1) := by decide +kernel
theorem dX8_ran_85 : decode cX8_ran 85 = .ok (.getfield 102, 3) := by decide +kernel
theorem dX8_ran_88 : decode cX8_ran 88 = .ok (.bipush 16, 2) := by decide +kernel
theorem dX8_ran_90 : decode cX8_ran 90 = .ok (.iload_n 1, 1) := by decide +kernel
theorem dX8_ran_91 : decode cX8_ran 91 = .ok (.imul, 1) := by decide +kernel
theorem dX8_ran_92 : decode cX8_ran 92 = .ok (.iload 5, 2) := by decide +kernel
theorem dX8_ran_94 : decode cX8_ran 94 = .ok (.iadd, 1) := by decide +kernel
theorem dX8_ran_95 : decode cX8_ran 95 = .ok (.iaload, 1) := by decide +kernel
theorem dX8_ran_96 : decode cX8_ran 96 = .ok (.iadd, 1) := by decide +kernel
theorem dX8_ran_97 : decode cX8_ran 97 = .ok (.istore 4, 2) := by decide +kernel
theorem dX8_ran_99 : decode cX8_ran 99 = .ok (.iinc 5 1, 3) := by decide +kernel
theorem dX8_ran_102 : decode cX8_ran 102 = .ok (.goto (-29), 3) := by decide +kernel
theorem dX8_ran_105 : decode cX8_ran 105 = .ok (.iload_n 2, 1) := by decide +kernel
theorem dX8_ran_106 : decode cX8_ran 106 = .ok (.tableswitch 60 0 4 #[34, 41, 43, 50, 57], 34) := by decide +kernel
theorem dX8_ran_140 : decode cX8_ran 140 = .ok (.aload_n 0, 1) := by decide +kernel
theorem dX8_ran_141 : decode cX8_ran 141 = .ok (.getfield 87, 3) := by decide +kernel
theorem dX8_ran_144 : decode cX8_ran 144 = .ok (.iload_n 1, 1) := by decide +kernel
theorem dX8_ran_145 : decode cX8_ran 145 = .ok (.iaload, 1) := by decide +kernel
theorem dX8_ran_146 : decode cX8_ran 146 = .ok (.ireturn, 1) := by decide +kernel
theorem dX8_ran_147 : decode cX8_ran 147 = .ok (.iload_n 3, 1) := by decide +kernel
theorem dX8_ran_148 : decode cX8_ran 148 = .ok (.ireturn, 1) := by decide +kernel
end
section
theorem dX8_ran_149 : decode cX8_ran 149 = .ok (.aload_n 0, 1) := by decide +kernel
theorem dX8_ran_150 : decode cX8_ran 150 = .ok (.getfield 96, 3) := by decide +kernel
theorem dX8_ran_153 : decode cX8_ran 153 = .ok (.iload_n 1, 1) := by decide +kernel
theorem dX8_ran_154 : decode cX8_ran 154 = .ok (.iaload, 1) := by decide +kernel
theorem dX8_ran_155 : decode cX8_ran 155 = .ok (.ireturn, 1) := by decide +kernel
theorem dX8_ran_156 : decode cX8_ran 156 = .ok (.aload_n 0, 1) := by decide +kernel
theorem dX8_ran_157 : decode cX8_ran 157 = .ok (.getfield 99, 3) := by decide +kernel
theorem dX8_ran_160 : decode cX8_ran 160 = .ok (.iload_n 1, 1) := by decide +kernel
theorem dX8_ran_161 : decode cX8_ran 161 = .ok (.iaload, 1) := by decide +kernel
theorem dX8_ran_162 : decode cX8_ran 162 = .ok (.ireturn, 1) := by decide +kernel
theorem dX8_ran_163 : decode cX8_ran 163 = .ok (.iload 4, 2) := by decide +kernel
theorem dX8_ran_165 : decode cX8_ran 165 = .ok (.ireturn, 1) := by decide +kernel
theorem dX8_ran_166 : decode cX8_ran 166 = .ok (.aload_n 0, 1) := by decide +kernel
theorem dX8_ran_167 : decode cX8_ran 167 = .ok (.getfield 96, 3) := by decide +kernel
theorem dX8_ran_170 : decode cX8_ran 170 = .ok (.iload_n 1, 1) := by decide +kernel
theorem dX8_ran_171 : decode cX8_ran 171 = .ok (.iaload, 1) := by decide +kernel
theorem dX8_ran_172 : decode cX8_ran 172 = .ok (.aload_n 0, 1) := by decide +kernel
theorem dX8_ran_173 : decode cX8_ran 173 = .ok (.getfield 99, 3) := by decide +kernel
theorem dX8_ran_176 : decode cX8_ran 176 = .ok (.iload_n 1, 1) := by decide +kernel
theorem dX8_ran_177 : decode cX8_ran 177 = .ok (.iaload, 1) := by decide +kernel
theorem dX8_ran_178 : decode cX8_ran 178 = .ok (.iadd, 1) := by decide +kernel
theorem dX8_ran_179 : decode cX8_ran 179 = .ok (.iload 4, 2) := by decide +kernel
theorem dX8_ran_181 : decode cX8_ran 181 = .ok (.iadd, 1) := by decide +kernel
theorem dX8_ran_182 : decode cX8_ran 182 = .ok (.iload_n 3, 1) := by decide +kernel
theorem dX8_ran_183 : decode cX8_ran 183 = .ok (.isub, 1) := by decide +kernel
theorem dX8_ran_184 : decode cX8_ran 184 = .ok (.ireturn, 1) := by decide +kernel
theorem dX8_blame_0 : decode cX8_blame 0 = .ok (.aload_n 0, 1) := by decide +kernel
theorem dX8_blame_1 : decode cX8_blame 1 = .ok (.iload_n 1, 1) := by decide +kernel
theorem dX8_blame_2 : decode cX8_blame 2 = .ok (.invokevirtual 118, 3) := by decide +kernel
theorem dX8_blame_5 : decode cX8_blame 5 = .ok (.ifCond .eq 11, 3) := by decide +kernel
theorem dX8_blame_8 : decode cX8_blame 8 = .ok (.aload_n 0, 1) := by decide +kernel
theorem dX8_blame_9 : decode cX8_blame 9 = .ok (.iload_n 2, 1) := by decide +kernel
theorem dX8_blame_10 : decode cX8_blame 10 = .ok (.invokevirtual 118, 3) := by decide +kernel
theorem dX8_blame_13 : decode cX8_blame 13 = .ok (.ifCond .ne 5, 3) := by decide +kernel
theorem dX8_blame_16 : decode cX8_blame 16 = .ok (.iconst (-1), 1) := by decide +kernel
theorem dX8_blame_17 : decode cX8_blame 17 = .ok (.ireturn, 1) := by decide +kernel
theorem dX8_blame_18 : decode cX8_blame 18 = .ok (.aload_n 0, 1) := by decide +kernel
theorem dX8_blame_19 : decode cX8_blame 19 = .ok (.invokevirtual 205, 3) := by decide +kernel
theorem dX8_blame_22 : decode cX8_blame 22 = .ok (.aload_n 0, 1) := by decide +kernel
theorem dX8_blame_23 : decode cX8_blame 23 = .ok (.getfield 102, 3) := by decide +kernel
theorem dX8_blame_26 : decode cX8_blame 26 = .ok (.bipush 16, 2) := by decide +kernel
theorem dX8_blame_28 : decode cX8_blame 28 = .ok (.iload_n 1, 1) := by decide +kernel
theorem dX8_blame_29 : decode cX8_blame 29 = .ok (.imul, 1) := by decide +kernel
theorem dX8_blame_30 : decode cX8_blame 30 = .ok (.iload_n 2, 1) := by decide +kernel
theorem dX8_blame_31 : decode cX8_blame 31 = .ok (.iadd, 1) := by decide +kernel
theorem dX8_blame_32 : decode cX8_blame 32 = .ok (.iaload, 1) := by decide +kernel
theorem dX8_blame_33 : decode cX8_blame 33 = .ok (.ireturn, 1) := by decide +kernel
theorem dX8_balance_0 : decode cX8_balance 0 = .ok (.iload_n 1, 1) := by decide +kernel
theorem dX8_balance_1 : decode cX8_balance 1 = .ok (.iconst 0, 1) := by decide +kernel
theorem dX8_balance_2 : decode cX8_balance 2 = .ok (.iconst 5, 1) := by decide +kernel
theorem dX8_balance_3 : decode cX8_balance 3 = .ok (.invokestatic 111, 3) := by decide +kernel
theorem dX8_balance_6 : decode cX8_balance 6 = .ok (.ifCond .ne 5, 3) := by decide +kernel
theorem dX8_balance_9 : decode cX8_balance 9 = .ok (.iconst 0, 1) := by decide +kernel
theorem dX8_balance_10 : decode cX8_balance 10 = .ok (.ireturn, 1) := by decide +kernel
theorem dX8_balance_11 : decode cX8_balance 11 = .ok (.aload_n 0, 1) := by decide +kernel
theorem dX8_balance_12 : decode cX8_balance 12 = .ok (.invokevirtual 205, 3) := by decide +kernel
theorem dX8_balance_15 : decode cX8_balance 15 = .ok (.iconst 0, 1) := by decide +kernel
theorem dX8_balance_16 : decode cX8_balance 16 = .ok (.istore_n 2, 1) := by decide +kernel
theorem dX8_balance_17 : decode cX8_balance 17 = .ok (.iconst 0, 1) := by decide +kernel
theorem dX8_balance_18 : decode cX8_balance 18 = .ok (.istore_n 3, 1) := by decide +kernel
theorem dX8_balance_19 : decode cX8_balance 19 = .ok (.iload_n 3, 1) := by decide +kernel
theorem dX8_balance_20 : decode cX8_balance 20 = .ok (.aload_n 0, 1) := by decide +kernel
theorem dX8_balance_21 : decode cX8_balance 21 = .ok (.getfield 108, 3) := by decide +kernel
theorem dX8_balance_24 : decode cX8_balance 24 = .ok (.if_icmp .ge 97, 3) := by decide +kernel
theorem dX8_balance_27 : decode cX8_balance 27 = .ok (.iconst 0, 1) := by decide +kernel
theorem dX8_balance_28 : decode cX8_balance 28 = .ok (.istore 4, 2) := by decide +kernel
theorem dX8_balance_30 : decode cX8_balance 30 = .ok (.iload 4, 2) := by decide +kernel
theorem dX8_balance_32 : decode cX8_balance 32 = .ok (.aload_n 0, 1) := by decide +kernel
theorem dX8_balance_33 : decode cX8_balance 33 = .ok (.getfield 108, 3) := by decide +kernel
theorem dX8_balance_36 : decode cX8_balance 36 = .ok (.if_icmp .ge 79, 3) := by decide +kernel
theorem dX8_balance_39 : decode cX8_balance 39 = .ok (.aload_n 0, 1) := by decide +kernel
theorem dX8_balance_40 : decode cX8_balance 40 = .ok (.getfield 33, 3) := by decide +kernel
theorem dX8_balance_43 : decode cX8_balance 43 = .ok (.iload_n 3, 1) := by decide +kernel
theorem dX8_balance_44 : decode cX8_balance 44 = .ok (.iaload, 1) := by decide +kernel
theorem dX8_balance_45 : decode cX8_balance 45 = .ok (.aload_n 0, 1) := by decide +kernel
theorem dX8_balance_46 : decode cX8_balance 46 = .ok (.getfield 33, 3) := by decide +kernel
theorem dX8_balance_49 : decode cX8_balance 49 = .ok (.iload 4, 2) := by decide +kernel
theorem dX8_balance_51 : decode cX8_balance 51 = .ok (.iaload, 1) := by decide +kernel
theorem dX8_balance_52 : decode cX8_balance 52 = .ok (.if_icmp .ne 6, 3) := by decide +kernel
theorem dX8_balance_55 : decode cX8_balance 55 = .ok (.goto 54, 3) := by decide +kernel
theorem dX8_balance_58 : decode cX8_balance 58 = .ok (.aload_n 0, 1) := by decide +kernel
theorem dX8_balance_59 : decode cX8_balance 59 = .ok (.getfield 33, 3) := by decide +kernel
theorem dX8_balance_62 : decode cX8_balance 62 = .ok (.iload_n 3, 1) := by decide +kernel
theorem dX8_balance_63 : decode cX8_balance 63 = .ok (.iaload, 1) := by decide +kernel
theorem dX8_balance_64 : decode cX8_balance 64 = .ok (.iload_n 1, 1) := by decide +kernel
theorem dX8_balance_65 : decode cX8_balance 65 = .ok (.if_icmp .ne 18, 3) := by decide +kernel
theorem dX8_balance_68 : decode cX8_balance 68 = .ok (.iload_n 2, 1) := by decide +kernel
theorem dX8_balance_69 : decode cX8_balance 69 = .ok (.aload_n 0, 1) := by decide +kernel
theorem dX8_balance_70 : decode cX8_balance 70 = .ok (.getfield 102, 3) := by decide +kernel
theorem dX8_balance_73 : decode cX8_balance 73 = .ok (.bipush 16, 2) := by decide +kernel
theorem dX8_balance_75 : decode cX8_balance 75 = .ok (.iload_n 3, 1) := by decide +kernel
theorem dX8_balance_76 : decode cX8_balance 76 = .ok (.imul, 1) := by decide +kernel
theorem dX8_balance_77 : decode cX8_balance 77 = .ok (.iload 4, 2) := by decide +kernel
theorem dX8_balance_79 : decode cX8_balance 79 = .ok (.iadd, 1) := by decide +kernel
theorem dX8_balance_80 : decode cX8_balance 80 = .ok (.iaload, 1) := by decide +kernel
theorem dX8_balance_81 : decode cX8_balance 81 = .ok (.iadd, 1) := by decide +kernel
theorem dX8_balance_82 : decode cX8_balance 82 = .ok (.istore_n 2, 1) := by decide +kernel
theorem dX8_balance_83 : decode cX8_balance 83 = .ok (.aload_n 0, 1) := by decide +kernel
theorem dX8_balance_84 : decode cX8_balance 84 = .ok (.getfield 33, 3) := by decide +kernel
theorem dX8_balance_87 : decode cX8_balance 87 = .ok (.iload 4, 2) := by decide +kernel
theorem dX8_balance_89 : decode cX8_balance 89 = .ok (.iaload, 1) := by decide +kernel
theorem dX8_balance_90 : decode cX8_balance 90 = .ok (.iload_n 1, 1) := by decide +kernel
theorem dX8_balance_91 : decode cX8_balance 91 = .ok (.if_icmp .ne 18, 3) := by decide +kernel
theorem dX8_balance_94 : decode cX8_balance 94 = .ok (.iload_n 2, 1) := by decide +kernel
theorem dX8_balance_95 : decode cX8_balance 95 = .ok (.aload_n 0, 1) := by decide +kernel
theorem dX8_balance_96 : decode cX8_balance 96 = .ok (.getfield 102, 3) := by decide +kernel
theorem dX8_balance_99 : decode cX8_balance 99 = .ok (.bipush 16, 2) := by decide +kernel
theorem dX8_balance_101 : decode cX8_balance 101 = .ok (.iload_n 3, 1) := by decide +kernel
theorem dX8_balance_102 : decode cX8_balance 102 = .ok (.imul, 1) := by decide +kernel
theorem dX8_balance_103 : decode cX8_balance 103 = .ok (.iload 4, 2) := by decide +kernel
theorem dX8_balance_105 : decode cX8_balance 105 = .ok (.iadd, 1) := by decide +kernel
theorem dX8_balance_106 : decode cX8_balance 106 = .ok (.iaload, 1) := by decide +kernel
theorem dX8_balance_107 : decode cX8_balance 107 = .ok (.isub, 1) := by decide +kernel
theorem dX8_balance_108 : decode cX8_balance 108 = .ok (.istore_n 2, 1) := by decide +kernel
theorem dX8_balance_109 : decode cX8_balance 109 = .ok (.iinc 4 1, 3) := by decide +kernel
theorem dX8_balance_112 : decode cX8_balance 112 = .ok (.goto (-82), 3) := by decide +kernel
theorem dX8_balance_115 : decode cX8_balance 115 = .ok (.iinc 3 1, 3) := by decide +kernel
theorem dX8_balance_118 : decode cX8_balance 118 = .ok (.goto (-99), 3) := by decide +kernel
theorem dX8_balance_121 : decode cX8_balance 121 = .ok (.iload_n 2, 1) := by decide +kernel
theorem dX8_balance_122 : decode cX8_balance 122 = .ok (.ireturn, 1) := by decide +kernel
theorem dX8_count_0 : decode cX8_count 0 = .ok (.iconst 0, 1) := by decide +kernel
theorem dX8_count_1 : decode cX8_count 1 = .ok (.istore_n 2, 1) := by decide +kernel
theorem dX8_count_2 : decode cX8_count 2 = .ok (.iload_n 1, 1) := by decide +kernel
theorem dX8_count_3 : decode cX8_count 3 = .ok (.tableswitch 132 0 5 #[37, 42, 47, 82, 122, 127], 37) := by decide +kernel
theorem dX8_count_40 : decode cX8_count 40 = .ok (.aload_n 0, 1) := by decide +kernel
theorem dX8_count_41 : decode cX8_count 41 = .ok (.getfield 105, 3) := by decide +kernel
theorem dX8_count_44 : decode cX8_count 44 = .ok (.ireturn, 1) := by decide +kernel
theorem dX8_count_45 : decode cX8_count 45 = .ok (.aload_n 0, 1) := by decide +kernel
theorem dX8_count_46 : decode cX8_count 46 = .ok (.getfield 108, 3) := by decide +kernel
theorem dX8_count_49 : decode cX8_count 49 = .ok (.ireturn, 1) := by decide +kernel
theorem dX8_count_50 : decode cX8_count 50 = .ok (.iconst 0, 1) := by decide +kernel
theorem dX8_count_51 : decode cX8_count 51 = .ok (.istore_n 3, 1) := by decide +kernel
theorem dX8_count_52 : decode cX8_count 52 = .ok (.iload_n 3, 1) := by decide +kernel
theorem dX8_count_53 : decode cX8_count 53 = .ok (.aload_n 0, 1) := by decide +kernel
theorem dX8_count_54 : decode cX8_count 54 = .ok (.getfield 108, 3) := by decide +kernel
theorem dX8_count_57 : decode cX8_count 57 = .ok (.if_icmp .ge 26, 3) := by decide +kernel
theorem dX8_count_60 : decode cX8_count 60 = .ok (.iload_n 2, 1) := by decide +kernel
theorem dX8_count_61 : decode cX8_count 61 = .ok (.aload_n 0, 1) := by decide +kernel
theorem dX8_count_62 : decode cX8_count 62 = .ok (.getfield 60, 3) := by decide +kernel
theorem dX8_count_65 : decode cX8_count 65 = .ok (.iload_n 3, 1) := by decide +kernel
theorem dX8_count_66 : decode cX8_count 66 = .ok (.baload, 1) := by decide +kernel
theorem dX8_count_67 : decode cX8_count 67 = .ok (.ifCond .eq 7, 3) := by decide +kernel
theorem dX8_count_70 : decode cX8_count 70 = .ok (.iconst 1, 1) := by decide +kernel
theorem dX8_count_71 : decode cX8_count 71 = .ok (.goto 4, 3) := by decide +kernel
theorem dX8_count_74 : decode cX8_count 74 = .ok (.iconst 0, 1) := by decide +kernel
theorem dX8_count_75 : decode cX8_count 75 = .ok (.iadd, 1) := by decide +kernel
theorem dX8_count_76 : decode cX8_count 76 = .ok (.istore_n 2, 1) := by decide +kernel
theorem dX8_count_77 : decode cX8_count 77 = .ok (.iinc 3 1, 3) := by decide +kernel
theorem dX8_count_80 : decode cX8_count 80 = .ok (.goto (-28), 3) := by decide +kernel
theorem dX8_count_83 : decode cX8_count 83 = .ok (.iload_n 2, 1) := by decide +kernel
theorem dX8_count_84 : decode cX8_count 84 = .ok (.ireturn, 1) := by decide +kernel
theorem dX8_count_85 : decode cX8_count 85 = .ok (.iconst 0, 1) := by decide +kernel
theorem dX8_count_86 : decode cX8_count 86 = .ok (.istore_n 3, 1) := by decide +kernel
theorem dX8_count_87 : decode cX8_count 87 = .ok (.iload_n 3, 1) := by decide +kernel
theorem dX8_count_88 : decode cX8_count 88 = .ok (.aload_n 0, 1) := by decide +kernel
theorem dX8_count_89 : decode cX8_count 89 = .ok (.getfield 108, 3) := by decide +kernel
theorem dX8_count_92 : decode cX8_count 92 = .ok (.if_icmp .ge 31, 3) := by decide +kernel
theorem dX8_count_95 : decode cX8_count 95 = .ok (.iload_n 2, 1) := by decide +kernel
theorem dX8_count_96 : decode cX8_count 96 = .ok (.aload_n 0, 1) := by decide +kernel
theorem dX8_count_97 : decode cX8_count 97 = .ok (.getfield 60, 3) := by decide +kernel
theorem dX8_count_100 : decode cX8_count 100 = .ok (.iload_n 3, 1) := by decide +kernel
theorem dX8_count_101 : decode cX8_count 101 = .ok (.baload, 1) := by decide +kernel
theorem dX8_count_102 : decode cX8_count 102 = .ok (.ifCond .eq 12, 3) := by decide +kernel
theorem dX8_count_105 : decode cX8_count 105 = .ok (.aload_n 0, 1) := by decide +kernel
theorem dX8_count_106 : decode cX8_count 106 = .ok (.getfield 51, 3) := by decide +kernel
theorem dX8_count_109 : decode cX8_count 109 = .ok (.iload_n 3, 1) := by decide +kernel
theorem dX8_count_110 : decode cX8_count 110 = .ok (.iaload, 1) := by decide +kernel
theorem dX8_count_111 : decode cX8_count 111 = .ok (.goto 4, 3) := by decide +kernel
theorem dX8_count_114 : decode cX8_count 114 = .ok (.iconst 0, 1) := by decide +kernel
theorem dX8_count_115 : decode cX8_count 115 = .ok (.iadd, 1) := by decide +kernel
theorem dX8_count_116 : decode cX8_count 116 = .ok (.istore_n 2, 1) := by decide +kernel
theorem dX8_count_117 : decode cX8_count 117 = .ok (.iinc 3 1, 3) := by decide +kernel
theorem dX8_count_120 : decode cX8_count 120 = .ok (.goto (-33), 3) := by decide +kernel
theorem dX8_count_123 : decode cX8_count 123 = .ok (.iload_n 2, 1) := by decide +kernel
theorem dX8_count_124 : decode cX8_count 124 = .ok (.ireturn, 1) := by decide +kernel
theorem dX8_count_125 : decode cX8_count 125 = .ok (.aload_n 0, 1) := by decide +kernel
theorem dX8_count_126 : decode cX8_count 126 = .ok (.getfield 115, 3) := by decide +kernel
theorem dX8_count_129 : decode cX8_count 129 = .ok (.ireturn, 1) := by decide +kernel
theorem dX8_count_130 : decode cX8_count 130 = .ok (.aload_n 0, 1) := by decide +kernel
theorem dX8_count_131 : decode cX8_count 131 = .ok (.getfield 20, 3) := by decide +kernel
theorem dX8_count_134 : decode cX8_count 134 = .ok (.ireturn, 1) := by decide +kernel
theorem dX8_count_135 : decode cX8_count 135 = .ok (.iconst (-1), 1) := by decide +kernel
theorem dX8_count_136 : decode cX8_count 136 = .ok (.ireturn, 1) := by decide +kernel
theorem dJ9_max_7cf53_0 : decode cJ9_max_7cf53 0 = .ok (.iload_n 0, 1) := by decide +kernel
theorem dJ9_max_7cf53_1 : decode cJ9_max_7cf53 1 = .ok (.iload_n 1, 1) := by decide +kernel
theorem dJ9_max_7cf53_2 : decode cJ9_max_7cf53 2 = .ok (.if_icmp .lt 7, 3) := by decide +kernel
theorem dJ9_max_7cf53_5 : decode cJ9_max_7cf53 5 = .ok (.iload_n 0, 1) := by decide +kernel
theorem dJ9_max_7cf53_6 : decode cJ9_max_7cf53 6 = .ok (.goto 4, 3) := by decide +kernel
theorem dJ9_max_7cf53_9 : decode cJ9_max_7cf53 9 = .ok (.iload_n 1, 1) := by decide +kernel
theorem dJ9_max_7cf53_10 : decode cJ9_max_7cf53 10 = .ok (.ireturn, 1) := by decide +kernel
theorem dJ9_min_7cf53_0 : decode cJ9_min_7cf53 0 = .ok (.iload_n 0, 1) := by decide +kernel
theorem dJ9_min_7cf53_1 : decode cJ9_min_7cf53 1 = .ok (.iload_n 1, 1) := by decide +kernel
theorem dJ9_min_7cf53_2 : decode cJ9_min_7cf53 2 = .ok (.if_icmp .gt 7, 3) := by decide +kernel
theorem dJ9_min_7cf53_5 : decode cJ9_min_7cf53 5 = .ok (.iload_n 0, 1) := by decide +kernel
theorem dJ9_min_7cf53_6 : decode cJ9_min_7cf53 6 = .ok (.goto 4, 3) := by decide +kernel
theorem dJ9_min_7cf53_9 : decode cJ9_min_7cf53 9 = .ok (.iload_n 1, 1) := by decide +kernel
theorem dJ9_min_7cf53_10 : decode cJ9_min_7cf53 10 = .ok (.ireturn, 1) := by decide +kernel
theorem dJxa1e45_init_da8c8_0 : decode cJxa1e45_init_da8c8 0 = .ok (.aload_n 0, 1) := by decide +kernel
theorem dJxa1e45_init_da8c8_1 : decode cJxa1e45_init_da8c8 1 = .ok (.invokespecial 1, 3) := by decide +kernel
theorem dJxa1e45_init_da8c8_4 : decode cJxa1e45_init_da8c8 4 = .ok (.return_, 1) := by decide +kernel
theorem dJxc12de_init_da8c8_0 : decode cJxc12de_init_da8c8 0 = .ok (.aload_n 0, 1) := by decide +kernel
theorem dJxc12de_init_da8c8_1 : decode cJxc12de_init_da8c8 1 = .ok (.invokespecial 1, 3) := by decide +kernel
theorem dJxc12de_init_da8c8_4 : decode cJxc12de_init_da8c8 4 = .ok (.aload_n 0, 1) := by decide +kernel
theorem dJxc12de_init_da8c8_5 : decode cJxc12de_init_da8c8 5 = .ok (.iconst 0, 1) := by decide +kernel
theorem dJxc12de_init_da8c8_6 : decode cJxc12de_init_da8c8 6 = .ok (.putfield 7, 3) := by decide +kernel
theorem dJxc12de_init_da8c8_9 : decode cJxc12de_init_da8c8 9 = .ok (.return_, 1) := by decide +kernel
theorem dJx4a65c_init_da8c8_0 : decode cJx4a65c_init_da8c8 0 = .ok (.aload_n 0, 1) := by decide +kernel
theorem dJx4a65c_init_da8c8_1 : decode cJx4a65c_init_da8c8 1 = .ok (.invokespecial 1, 3) := by decide +kernel
theorem dJx4a65c_init_da8c8_4 : decode cJx4a65c_init_da8c8 4 = .ok (.aload_n 0, 1) := by decide +kernel
theorem dJx4a65c_init_da8c8_5 : decode cJx4a65c_init_da8c8 5 = .ok (.getstatic 39, 3) := by decide +kernel
theorem dJx4a65c_init_da8c8_8 : decode cJx4a65c_init_da8c8 8 = .ok (.putfield 9, 3) := by decide +kernel
theorem dJx4a65c_init_da8c8_11 : decode cJx4a65c_init_da8c8 11 = .ok (.return_, 1) := by decide +kernel
theorem dJx4a65c_grow_92f84_0 : decode cJx4a65c_grow_92f84 0 = .ok (.aload_n 0, 1) := by decide +kernel
theorem dJx4a65c_grow_92f84_1 : decode cJx4a65c_grow_92f84 1 = .ok (.getfield 9, 3) := by decide +kernel
theorem dJx4a65c_grow_92f84_4 : decode cJx4a65c_grow_92f84 4 = .ok (.arraylength, 1) := by decide +kernel
theorem dJx4a65c_grow_92f84_5 : decode cJx4a65c_grow_92f84 5 = .ok (.istore_n 2, 1) := by decide +kernel
theorem dJx4a65c_grow_92f84_6 : decode cJx4a65c_grow_92f84 6 = .ok (.iload_n 2, 1) := by decide +kernel
theorem dJx4a65c_grow_92f84_7 : decode cJx4a65c_grow_92f84 7 = .ok (.ifCond .gt 13, 3) := by decide +kernel
theorem dJx4a65c_grow_92f84_10 : decode cJx4a65c_grow_92f84 10 = .ok (.aload_n 0, 1) := by decide +kernel
theorem dJx4a65c_grow_92f84_11 : decode cJx4a65c_grow_92f84 11 = .ok (.getfield 9, 3) := by decide +kernel
theorem dJx4a65c_grow_92f84_14 : decode cJx4a65c_grow_92f84 14 = .ok (.getstatic 39, 3) := by decide +kernel
theorem dJx4a65c_grow_92f84_17 : decode cJx4a65c_grow_92f84 17 = .ok (.if_acmp .eq 28, 3) := by decide +kernel
theorem dJx4a65c_grow_92f84_20 : decode cJx4a65c_grow_92f84 20 = .ok (.iload_n 2, 1) := by decide +kernel
theorem dJx4a65c_grow_92f84_21 : decode cJx4a65c_grow_92f84 21 = .ok (.iload_n 1, 1) := by decide +kernel
theorem dJx4a65c_grow_92f84_22 : decode cJx4a65c_grow_92f84 22 = .ok (.iload_n 2, 1) := by decide +kernel
theorem dJx4a65c_grow_92f84_23 : decode cJx4a65c_grow_92f84 23 = .ok (.isub, 1) := by decide +kernel
theorem dJx4a65c_grow_92f84_24 : decode cJx4a65c_grow_92f84 24 = .ok (.iload_n 2, 1) := by decide +kernel
theorem dJx4a65c_grow_92f84_25 : decode cJx4a65c_grow_92f84 25 = .ok (.iconst 1, 1) := by decide +kernel
theorem dJx4a65c_grow_92f84_26 : decode cJx4a65c_grow_92f84 26 = .ok (.ishr, 1) := by decide +kernel
theorem dJx4a65c_grow_92f84_27 : decode cJx4a65c_grow_92f84 27 = .ok (.invokestatic 73, 3) := by decide +kernel
theorem dJx4a65c_grow_92f84_30 : decode cJx4a65c_grow_92f84 30 = .ok (.istore_n 3, 1) := by decide +kernel
theorem dJx4a65c_grow_92f84_31 : decode cJx4a65c_grow_92f84 31 = .ok (.aload_n 0, 1) := by decide +kernel
theorem dJx4a65c_grow_92f84_32 : decode cJx4a65c_grow_92f84 32 = .ok (.aload_n 0, 1) := by decide +kernel
theorem dJx4a65c_grow_92f84_33 : decode cJx4a65c_grow_92f84 33 = .ok (.getfield 9, 3) := by decide +kernel
theorem dJx4a65c_grow_92f84_36 : decode cJx4a65c_grow_92f84 36 = .ok (.iload_n 3, 1) := by decide +kernel
theorem dJx4a65c_grow_92f84_37 : decode cJx4a65c_grow_92f84 37 = .ok (.invokestatic 66, 3) := by decide +kernel
theorem dJx4a65c_grow_92f84_40 : decode cJx4a65c_grow_92f84 40 = .ok (.dup_x1, 1) := by decide +kernel
theorem dJx4a65c_grow_92f84_41 : decode cJx4a65c_grow_92f84 41 = .ok (.putfield 9, 3) := by decide +kernel
theorem dJx4a65c_grow_92f84_44 : decode cJx4a65c_grow_92f84 44 = .ok (.areturn, 1) := by decide +kernel
theorem dJx4a65c_grow_92f84_45 : decode cJx4a65c_grow_92f84 45 = .ok (.aload_n 0, 1) := by decide +kernel
theorem dJx4a65c_grow_92f84_46 : decode cJx4a65c_grow_92f84 46 = .ok (.bipush 10, 2) := by decide +kernel
theorem dJx4a65c_grow_92f84_48 : decode cJx4a65c_grow_92f84 48 = .ok (.iload_n 1, 1) := by decide +kernel
theorem dJx4a65c_grow_92f84_49 : decode cJx4a65c_grow_92f84 49 = .ok (.invokestatic 79, 3) := by decide +kernel
theorem dJx4a65c_grow_92f84_52 : decode cJx4a65c_grow_92f84 52 = .ok (.anewarray 7, 3) := by decide +kernel
theorem dJx4a65c_grow_92f84_55 : decode cJx4a65c_grow_92f84 55 = .ok (.dup_x1, 1) := by decide +kernel
theorem dJx4a65c_grow_92f84_56 : decode cJx4a65c_grow_92f84 56 = .ok (.putfield 9, 3) := by decide +kernel
theorem dJx4a65c_grow_92f84_59 : decode cJx4a65c_grow_92f84 59 = .ok (.areturn, 1) := by decide +kernel
theorem dJx4a65c_grow_d5877_0 : decode cJx4a65c_grow_d5877 0 = .ok (.aload_n 0, 1) := by decide +kernel
theorem dJx4a65c_grow_d5877_1 : decode cJx4a65c_grow_d5877 1 = .ok (.aload_n 0, 1) := by decide +kernel
theorem dJx4a65c_grow_d5877_2 : decode cJx4a65c_grow_d5877 2 = .ok (.getfield 48, 3) := by decide +kernel
theorem dJx4a65c_grow_d5877_5 : decode cJx4a65c_grow_d5877 5 = .ok (.iconst 1, 1) := by decide +kernel
theorem dJx4a65c_grow_d5877_6 : decode cJx4a65c_grow_d5877 6 = .ok (.iadd, 1) := by decide +kernel
theorem dJx4a65c_grow_d5877_7 : decode cJx4a65c_grow_d5877 7 = .ok (.invokevirtual 69, 3) := by decide +kernel
theorem dJx4a65c_grow_d5877_10 : decode cJx4a65c_grow_d5877 10 = .ok (.areturn, 1) := by decide +kernel
theorem dJx4a65c_size_8abf5_0 : decode cJx4a65c_size_8abf5 0 = .ok (.aload_n 0, 1) := by decide +kernel
theorem dJx4a65c_size_8abf5_1 : decode cJx4a65c_size_8abf5 1 = .ok (.getfield 48, 3) := by decide +kernel
theorem dJx4a65c_size_8abf5_4 : decode cJx4a65c_size_8abf5 4 = .ok (.ireturn, 1) := by decide +kernel
theorem dJx4a65c_elementData_915e3_0 : decode cJx4a65c_elementData_915e3 0 = .ok (.aload_n 0, 1) := by decide +kernel
theorem dJx4a65c_elementData_915e3_1 : decode cJx4a65c_elementData_915e3 1 = .ok (.getfield 9, 3) := by decide +kernel
theorem dJx4a65c_elementData_915e3_4 : decode cJx4a65c_elementData_915e3 4 = .ok (.iload_n 1, 1) := by decide +kernel
theorem dJx4a65c_elementData_915e3_5 : decode cJx4a65c_elementData_915e3 5 = .ok (.aaload, 1) := by decide +kernel
theorem dJx4a65c_elementData_915e3_6 : decode cJx4a65c_elementData_915e3 6 = .ok (.areturn, 1) := by decide +kernel
theorem dJx4a65c_get_915e3_0 : decode cJx4a65c_get_915e3 0 = .ok (.iload_n 1, 1) := by decide +kernel
theorem dJx4a65c_get_915e3_1 : decode cJx4a65c_get_915e3 1 = .ok (.aload_n 0, 1) := by decide +kernel
theorem dJx4a65c_get_915e3_2 : decode cJx4a65c_get_915e3 2 = .ok (.getfield 48, 3) := by decide +kernel
theorem dJx4a65c_get_915e3_5 : decode cJx4a65c_get_915e3 5 = .ok (.invokestatic 118, 3) := by decide +kernel
theorem dJx4a65c_get_915e3_8 : decode cJx4a65c_get_915e3 8 = .ok (.pop, 1) := by decide +kernel
theorem dJx4a65c_get_915e3_9 : decode cJx4a65c_get_915e3 9 = .ok (.aload_n 0, 1) := by decide +kernel
theorem dJx4a65c_get_915e3_10 : decode cJx4a65c_get_915e3 10 = .ok (.iload_n 1, 1) := by decide +kernel
theorem dJx4a65c_get_915e3_11 : decode cJx4a65c_get_915e3 11 = .ok (.invokevirtual 123, 3) := by decide +kernel
theorem dJx4a65c_get_915e3_14 : decode cJx4a65c_get_915e3 14 = .ok (.areturn, 1) := by decide +kernel
theorem dJx4a65c_add_72be8_0 : decode cJx4a65c_add_72be8 0 = .ok (.iload_n 3, 1) := by decide +kernel
theorem dJx4a65c_add_72be8_1 : decode cJx4a65c_add_72be8 1 = .ok (.aload_n 2, 1) := by decide +kernel
theorem dJx4a65c_add_72be8_2 : decode cJx4a65c_add_72be8 2 = .ok (.arraylength, 1) := by decide +kernel
theorem dJx4a65c_add_72be8_3 : decode cJx4a65c_add_72be8 3 = .ok (.if_icmp .ne 8, 3) := by decide +kernel
theorem dJx4a65c_add_72be8_6 : decode cJx4a65c_add_72be8 6 = .ok (.aload_n 0, 1) := by decide +kernel
theorem dJx4a65c_add_72be8_7 : decode cJx4a65c_add_72be8 7 = .ok (.invokevirtual 129, 3) := by decide +kernel
theorem dJx4a65c_add_72be8_10 : decode cJx4a65c_add_72be8 10 = .ok (.astore_n 2, 1) := by decide +kernel
theorem dJx4a65c_add_72be8_11 : decode cJx4a65c_add_72be8 11 = .ok (.aload_n 2, 1) := by decide +kernel
theorem dJx4a65c_add_72be8_12 : decode cJx4a65c_add_72be8 12 = .ok (.iload_n 3, 1) := by decide +kernel
theorem dJx4a65c_add_72be8_13 : decode cJx4a65c_add_72be8 13 = .ok (.aload_n 1, 1) := by decide +kernel
theorem dJx4a65c_add_72be8_14 : decode cJx4a65c_add_72be8 14 = .ok (.aastore, 1) := by decide +kernel
theorem dJx4a65c_add_72be8_15 : decode cJx4a65c_add_72be8 15 = .ok (.aload_n 0, 1) := by decide +kernel
theorem dJx4a65c_add_72be8_16 : decode cJx4a65c_add_72be8 16 = .ok (.iload_n 3, 1) := by decide +kernel
theorem dJx4a65c_add_72be8_17 : decode cJx4a65c_add_72be8 17 = .ok (.iconst 1, 1) := by decide +kernel
theorem dJx4a65c_add_72be8_18 : decode cJx4a65c_add_72be8 18 = .ok (.iadd, 1) := by decide +kernel
theorem dJx4a65c_add_72be8_19 : decode cJx4a65c_add_72be8 19 = .ok (.putfield 48, 3) := by decide +kernel
theorem dJx4a65c_add_72be8_22 : decode cJx4a65c_add_72be8 22 = .ok (.return_, 1) := by decide +kernel
theorem dJx4a65c_add_9ea2d_0 : decode cJx4a65c_add_9ea2d 0 = .ok (.aload_n 0, 1) := by decide +kernel
theorem dJx4a65c_add_9ea2d_1 : decode cJx4a65c_add_9ea2d 1 = .ok (.dup, 1) := by decide +kernel
theorem dJx4a65c_add_9ea2d_2 : decode cJx4a65c_add_9ea2d 2 = .ok (.getfield 63, 3) := by decide +kernel
theorem dJx4a65c_add_9ea2d_5 : decode cJx4a65c_add_9ea2d 5 = .ok (.iconst 1, 1) := by decide +kernel
theorem dJx4a65c_add_9ea2d_6 : decode cJx4a65c_add_9ea2d 6 = .ok (.iadd, 1) := by decide +kernel
theorem dJx4a65c_add_9ea2d_7 : decode cJx4a65c_add_9ea2d 7 = .ok (.putfield 63, 3) := by decide +kernel
theorem dJx4a65c_add_9ea2d_10 : decode cJx4a65c_add_9ea2d 10 = .ok (.aload_n 0, 1) := by decide +kernel
theorem dJx4a65c_add_9ea2d_11 : decode cJx4a65c_add_9ea2d 11 = .ok (.aload_n 1, 1) := by decide +kernel
theorem dJx4a65c_add_9ea2d_12 : decode cJx4a65c_add_9ea2d 12 = .ok (.aload_n 0, 1) := by decide +kernel
theorem dJx4a65c_add_9ea2d_13 : decode cJx4a65c_add_9ea2d 13 = .ok (.getfield 9, 3) := by decide +kernel
theorem dJx4a65c_add_9ea2d_16 : decode cJx4a65c_add_9ea2d 16 = .ok (.aload_n 0, 1) := by decide +kernel
theorem dJx4a65c_add_9ea2d_17 : decode cJx4a65c_add_9ea2d 17 = .ok (.getfield 48, 3) := by decide +kernel
theorem dJx4a65c_add_9ea2d_20 : decode cJx4a65c_add_9ea2d 20 = .ok (.invokevirtual 131, 3) := by decide +kernel
theorem dJx4a65c_add_9ea2d_23 : decode cJx4a65c_add_9ea2d 23 = .ok (.iconst 1, 1) := by decide +kernel
theorem dJx4a65c_add_9ea2d_24 : decode cJx4a65c_add_9ea2d 24 = .ok (.ireturn, 1) := by decide +kernel
theorem dJx4a65c_add_7a177_0 : decode cJx4a65c_add_7a177 0 = .ok (.aload_n 0, 1) := by decide +kernel
theorem dJx4a65c_add_7a177_1 : decode cJx4a65c_add_7a177 1 = .ok (.iload_n 1, 1) := by decide +kernel
theorem dJx4a65c_add_7a177_2 : decode cJx4a65c_add_7a177 2 = .ok (.invokevirtual 135, 3) := by decide +kernel
theorem dJx4a65c_add_7a177_5 : decode cJx4a65c_add_7a177 5 = .ok (.aload_n 0, 1) := by decide +kernel
theorem dJx4a65c_add_7a177_6 : decode cJx4a65c_add_7a177 6 = .ok (.dup, 1) := by decide +kernel
theorem dJx4a65c_add_7a177_7 : decode cJx4a65c_add_7a177 7 = .ok (.getfield 63, 3) := by decide +kernel
theorem dJx4a65c_add_7a177_10 : decode cJx4a65c_add_7a177 10 = .ok (.iconst 1, 1) := by decide +kernel
theorem dJx4a65c_add_7a177_11 : decode cJx4a65c_add_7a177 11 = .ok (.iadd, 1) := by decide +kernel
theorem dJx4a65c_add_7a177_12 : decode cJx4a65c_add_7a177 12 = .ok (.putfield 63, 3) := by decide +kernel
theorem dJx4a65c_add_7a177_15 : decode cJx4a65c_add_7a177 15 = .ok (.aload_n 0, 1) := by decide +kernel
theorem dJx4a65c_add_7a177_16 : decode cJx4a65c_add_7a177 16 = .ok (.getfield 48, 3) := by decide +kernel
theorem dJx4a65c_add_7a177_19 : decode cJx4a65c_add_7a177 19 = .ok (.dup, 1) := by decide +kernel
theorem dJx4a65c_add_7a177_20 : decode cJx4a65c_add_7a177 20 = .ok (.istore_n 3, 1) := by decide +kernel
theorem dJx4a65c_add_7a177_21 : decode cJx4a65c_add_7a177 21 = .ok (.aload_n 0, 1) := by decide +kernel
theorem dJx4a65c_add_7a177_22 : decode cJx4a65c_add_7a177 22 = .ok (.getfield 9, 3) := by decide +kernel
theorem dJx4a65c_add_7a177_25 : decode cJx4a65c_add_7a177 25 = .ok (.dup, 1) := by decide +kernel
theorem dJx4a65c_add_7a177_26 : decode cJx4a65c_add_7a177 26 = .ok (.astore 4, 2) := by decide +kernel
theorem dJx4a65c_add_7a177_28 : decode cJx4a65c_add_7a177 28 = .ok (.arraylength, 1) := by decide +kernel
theorem dJx4a65c_add_7a177_29 : decode cJx4a65c_add_7a177 29 = .ok (.if_icmp .ne 9, 3) := by decide +kernel
theorem dJx4a65c_add_7a177_32 : decode cJx4a65c_add_7a177 32 = .ok (.aload_n 0, 1) := by decide +kernel
theorem dJx4a65c_add_7a177_33 : decode cJx4a65c_add_7a177 33 = .ok (.invokevirtual 129, 3) := by decide +kernel
theorem dJx4a65c_add_7a177_36 : decode cJx4a65c_add_7a177 36 = .ok (.astore 4, 2) := by decide +kernel
theorem dJx4a65c_add_7a177_38 : decode cJx4a65c_add_7a177 38 = .ok (.aload 4, 2) := by decide +kernel
theorem dJx4a65c_add_7a177_40 : decode cJx4a65c_add_7a177 40 = .ok (.iload_n 1, 1) := by decide +kernel
theorem dJx4a65c_add_7a177_41 : decode cJx4a65c_add_7a177 41 = .ok (.aload 4, 2) := by decide +kernel
theorem dJx4a65c_add_7a177_43 : decode cJx4a65c_add_7a177 43 = .ok (.iload_n 1, 1) := by decide +kernel
theorem dJx4a65c_add_7a177_44 : decode cJx4a65c_add_7a177 44 = .ok (.iconst 1, 1) := by decide +kernel
theorem dJx4a65c_add_7a177_45 : decode cJx4a65c_add_7a177 45 = .ok (.iadd, 1) := by decide +kernel
theorem dJx4a65c_add_7a177_46 : decode cJx4a65c_add_7a177 46 = .ok (.iload_n 3, 1) := by decide +kernel
theorem dJx4a65c_add_7a177_47 : decode cJx4a65c_add_7a177 47 = .ok (.iload_n 1, 1) := by decide +kernel
theorem dJx4a65c_add_7a177_48 : decode cJx4a65c_add_7a177 48 = .ok (.isub, 1) := by decide +kernel
theorem dJx4a65c_add_7a177_49 : decode cJx4a65c_add_7a177 49 = .ok (.invokestatic 112, 3) := by decide +kernel
theorem dJx4a65c_add_7a177_52 : decode cJx4a65c_add_7a177 52 = .ok (.aload 4, 2) := by decide +kernel
theorem dJx4a65c_add_7a177_54 : decode cJx4a65c_add_7a177 54 = .ok (.iload_n 1, 1) := by decide +kernel
theorem dJx4a65c_add_7a177_55 : decode cJx4a65c_add_7a177 55 = .ok (.aload_n 2, 1) := by decide +kernel
theorem dJx4a65c_add_7a177_56 : decode cJx4a65c_add_7a177 56 = .ok (.aastore, 1) := by decide +kernel
theorem dJx4a65c_add_7a177_57 : decode cJx4a65c_add_7a177 57 = .ok (.aload_n 0, 1) := by decide +kernel
theorem dJx4a65c_add_7a177_58 : decode cJx4a65c_add_7a177 58 = .ok (.iload_n 3, 1) := by decide +kernel
theorem dJx4a65c_add_7a177_59 : decode cJx4a65c_add_7a177 59 = .ok (.iconst 1, 1) := by decide +kernel
theorem dJx4a65c_add_7a177_60 : decode cJx4a65c_add_7a177 60 = .ok (.iadd, 1) := by decide +kernel
theorem dJx4a65c_add_7a177_61 : decode cJx4a65c_add_7a177 61 = .ok (.putfield 48, 3) := by decide +kernel
theorem dJx4a65c_add_7a177_64 : decode cJx4a65c_add_7a177 64 = .ok (.return_, 1) := by decide +kernel
theorem dJx4a65c_rangeCheckForAdd_d00df_0 : decode cJx4a65c_rangeCheckForAdd_d00df 0 = .ok (.iload_n 1, 1) := by decide +kernel
theorem dJx4a65c_rangeCheckForAdd_d00df_1 : decode cJx4a65c_rangeCheckForAdd_d00df 1 = .ok (.aload_n 0, 1) := by decide +kernel
theorem dJx4a65c_rangeCheckForAdd_d00df_2 : decode cJx4a65c_rangeCheckForAdd_d00df 2 = .ok (.getfield 48, 3) := by decide +kernel
theorem dJx4a65c_rangeCheckForAdd_d00df_5 : decode cJx4a65c_rangeCheckForAdd_d00df 5 = .ok (.if_icmp .gt 7, 3) := by decide +kernel
theorem dJx4a65c_rangeCheckForAdd_d00df_8 : decode cJx4a65c_rangeCheckForAdd_d00df 8 = .ok (.iload_n 1, 1) := by decide +kernel
theorem dJx4a65c_rangeCheckForAdd_d00df_9 : decode cJx4a65c_rangeCheckForAdd_d00df 9 = .ok (.ifCond .ge 16, 3) := by decide +kernel
theorem dJx4a65c_rangeCheckForAdd_d00df_12 : decode cJx4a65c_rangeCheckForAdd_d00df 12 = .ok (.new 187, 3) := by decide +kernel
theorem dJx4a65c_rangeCheckForAdd_d00df_15 : decode cJx4a65c_rangeCheckForAdd_d00df 15 = .ok (.dup, 1) := by decide +kernel
theorem dJx4a65c_rangeCheckForAdd_d00df_16 : decode cJx4a65c_rangeCheckForAdd_d00df 16 = .ok (.aload_n 0, 1) := by decide +kernel
theorem dJx4a65c_rangeCheckForAdd_d00df_17 : decode cJx4a65c_rangeCheckForAdd_d00df 17 = .ok (.iload_n 1, 1) := by decide +kernel
theorem dJx4a65c_rangeCheckForAdd_d00df_18 : decode cJx4a65c_rangeCheckForAdd_d00df 18 = .ok (.invokevirtual 198, 3) := by decide +kernel
theorem dJx4a65c_rangeCheckForAdd_d00df_21 : decode cJx4a65c_rangeCheckForAdd_d00df 21 = .ok (.invokespecial 193, 3) := by decide +kernel
theorem dJx4a65c_rangeCheckForAdd_d00df_24 : decode cJx4a65c_rangeCheckForAdd_d00df 24 = .ok (.athrow, 1) := by decide +kernel
theorem dJx4a65c_rangeCheckForAdd_d00df_25 : decode cJx4a65c_rangeCheckForAdd_d00df 25 = .ok (.return_, 1) := by decide +kernel
theorem dJ7_copyOf_1904c_0 : decode cJ7_copyOf_1904c 0 = .ok (.aload_n 0, 1) := by decide +kernel
theorem dJ7_copyOf_1904c_1 : decode cJ7_copyOf_1904c 1 = .ok (.iload_n 1, 1) := by decide +kernel
theorem dJ7_copyOf_1904c_2 : decode cJ7_copyOf_1904c 2 = .ok (.aload_n 0, 1) := by decide +kernel
theorem dJ7_copyOf_1904c_3 : decode cJ7_copyOf_1904c 3 = .ok (.invokevirtual 86, 3) := by decide +kernel
theorem dJ7_copyOf_1904c_6 : decode cJ7_copyOf_1904c 6 = .ok (.invokestatic 300, 3) := by decide +kernel
theorem dJ7_copyOf_1904c_9 : decode cJ7_copyOf_1904c 9 = .ok (.areturn, 1) := by decide +kernel
theorem dJ7_copyOf_6403c_0 : decode cJ7_copyOf_6403c 0 = .ok (.aload_n 2, 1) := by decide +kernel
theorem dJ7_copyOf_6403c_1 : decode cJ7_copyOf_6403c 1 = .ok (.ldc 110, 2) := by decide +kernel
theorem dJ7_copyOf_6403c_3 : decode cJ7_copyOf_6403c 3 = .ok (.if_acmp .ne 10, 3) := by decide +kernel
theorem dJ7_copyOf_6403c_6 : decode cJ7_copyOf_6403c 6 = .ok (.iload_n 1, 1) := by decide +kernel
theorem dJ7_copyOf_6403c_7 : decode cJ7_copyOf_6403c 7 = .ok (.anewarray 2, 3) := by decide +kernel
theorem dJ7_copyOf_6403c_10 : decode cJ7_copyOf_6403c 10 = .ok (.goto 14, 3) := by decide +kernel
theorem dJ7_copyOf_6403c_13 : decode cJ7_copyOf_6403c 13 = .ok (.aload_n 2, 1) := by decide +kernel
theorem dJ7_copyOf_6403c_14 : decode cJ7_copyOf_6403c 14 = .ok (.invokevirtual 90, 3) := by decide +kernel
theorem dJ7_copyOf_6403c_17 : decode cJ7_copyOf_6403c 17 = .ok (.iload_n 1, 1) := by decide +kernel
theorem dJ7_copyOf_6403c_18 : decode cJ7_copyOf_6403c 18 = .ok (.invokestatic 95, 3) := by decide +kernel
theorem dJ7_copyOf_6403c_21 : decode cJ7_copyOf_6403c 21 = .ok (.checkcast 110, 3) := by decide +kernel
theorem dJ7_copyOf_6403c_24 : decode cJ7_copyOf_6403c 24 = .ok (.astore_n 3, 1) := by decide +kernel
theorem dJ7_copyOf_6403c_25 : decode cJ7_copyOf_6403c 25 = .ok (.aload_n 0, 1) := by decide +kernel
theorem dJ7_copyOf_6403c_26 : decode cJ7_copyOf_6403c 26 = .ok (.iconst 0, 1) := by decide +kernel
theorem dJ7_copyOf_6403c_27 : decode cJ7_copyOf_6403c 27 = .ok (.aload_n 3, 1) := by decide +kernel
theorem dJ7_copyOf_6403c_28 : decode cJ7_copyOf_6403c 28 = .ok (.iconst 0, 1) := by decide +kernel
theorem dJ7_copyOf_6403c_29 : decode cJ7_copyOf_6403c 29 = .ok (.aload_n 0, 1) := by decide +kernel
theorem dJ7_copyOf_6403c_30 : decode cJ7_copyOf_6403c 30 = .ok (.arraylength, 1) := by decide +kernel
theorem dJ7_copyOf_6403c_31 : decode cJ7_copyOf_6403c 31 = .ok (.iload_n 1, 1) := by decide +kernel
theorem dJ7_copyOf_6403c_32 : decode cJ7_copyOf_6403c 32 = .ok (.invokestatic 304, 3) := by decide +kernel
theorem dJ7_copyOf_6403c_35 : decode cJ7_copyOf_6403c 35 = .ok (.invokestatic 150, 3) := by decide +kernel
theorem dJ7_copyOf_6403c_38 : decode cJ7_copyOf_6403c 38 = .ok (.aload_n 3, 1) := by decide +kernel
theorem dJ7_copyOf_6403c_39 : decode cJ7_copyOf_6403c 39 = .ok (.areturn, 1) := by decide +kernel
theorem dJ15_checkIndex_7cf53_0 : decode cJ15_checkIndex_7cf53 0 = .ok (.iload_n 0, 1) := by decide +kernel
theorem dJ15_checkIndex_7cf53_1 : decode cJ15_checkIndex_7cf53 1 = .ok (.iload_n 1, 1) := by decide +kernel
theorem dJ15_checkIndex_7cf53_2 : decode cJ15_checkIndex_7cf53 2 = .ok (.aconst_null, 1) := by decide +kernel
theorem dJ15_checkIndex_7cf53_3 : decode cJ15_checkIndex_7cf53 3 = .ok (.invokestatic 105, 3) := by decide +kernel
theorem dJ15_checkIndex_7cf53_6 : decode cJ15_checkIndex_7cf53 6 = .ok (.ireturn, 1) := by decide +kernel
theorem dJ8_newLength_cabcc_0 : decode cJ8_newLength_cabcc 0 = .ok (.iload_n 0, 1) := by decide +kernel
theorem dJ8_newLength_cabcc_1 : decode cJ8_newLength_cabcc 1 = .ok (.iload_n 1, 1) := by decide +kernel
theorem dJ8_newLength_cabcc_2 : decode cJ8_newLength_cabcc 2 = .ok (.iload_n 2, 1) := by decide +kernel
theorem dJ8_newLength_cabcc_3 : decode cJ8_newLength_cabcc 3 = .ok (.invokestatic 194, 3) := by decide +kernel
theorem dJ8_newLength_cabcc_6 : decode cJ8_newLength_cabcc 6 = .ok (.iadd, 1) := by decide +kernel
theorem dJ8_newLength_cabcc_7 : decode cJ8_newLength_cabcc 7 = .ok (.istore_n 3, 1) := by decide +kernel
theorem dJ8_newLength_cabcc_8 : decode cJ8_newLength_cabcc 8 = .ok (.iconst 0, 1) := by decide +kernel
theorem dJ8_newLength_cabcc_9 : decode cJ8_newLength_cabcc 9 = .ok (.iload_n 3, 1) := by decide +kernel
theorem dJ8_newLength_cabcc_10 : decode cJ8_newLength_cabcc 10 = .ok (.if_icmp .ge 11, 3) := by decide +kernel
theorem dJ8_newLength_cabcc_13 : decode cJ8_newLength_cabcc 13 = .ok (.iload_n 3, 1) := by decide +kernel
theorem dJ8_newLength_cabcc_14 : decode cJ8_newLength_cabcc 14 = .ok (.ldc 200, 2) := by decide +kernel
theorem dJ8_newLength_cabcc_16 : decode cJ8_newLength_cabcc 16 = .ok (.if_icmp .gt 5, 3) := by decide +kernel
theorem dJ8_newLength_cabcc_19 : decode cJ8_newLength_cabcc 19 = .ok (.iload_n 3, 1) := by decide +kernel
theorem dJ8_newLength_cabcc_20 : decode cJ8_newLength_cabcc 20 = .ok (.ireturn, 1) := by decide +kernel
theorem dJ8_newLength_cabcc_21 : decode cJ8_newLength_cabcc 21 = .ok (.iload_n 0, 1) := by decide +kernel
theorem dJ8_newLength_cabcc_22 : decode cJ8_newLength_cabcc 22 = .ok (.iload_n 1, 1) := by decide +kernel
theorem dJ8_newLength_cabcc_23 : decode cJ8_newLength_cabcc 23 = .ok (.invokestatic 201, 3) := by decide +kernel
theorem dJ8_newLength_cabcc_26 : decode cJ8_newLength_cabcc 26 = .ok (.ireturn, 1) := by decide +kernel
theorem dJ8_hugeLength_7cf53_0 : decode cJ8_hugeLength_7cf53 0 = .ok (.iload_n 0, 1) := by decide +kernel
theorem dJ8_hugeLength_7cf53_1 : decode cJ8_hugeLength_7cf53 1 = .ok (.iload_n 1, 1) := by decide +kernel
theorem dJ8_hugeLength_7cf53_2 : decode cJ8_hugeLength_7cf53 2 = .ok (.iadd, 1) := by decide +kernel
theorem dJ8_hugeLength_7cf53_3 : decode cJ8_hugeLength_7cf53 3 = .ok (.istore_n 2, 1) := by decide +kernel
theorem dJ8_hugeLength_7cf53_4 : decode cJ8_hugeLength_7cf53 4 = .ok (.iload_n 2, 1) := by decide +kernel
theorem dJ8_hugeLength_7cf53_5 : decode cJ8_hugeLength_7cf53 5 = .ok (.ifCond .ge 44, 3) := by decide +kernel
theorem dJ8_hugeLength_7cf53_8 : decode cJ8_hugeLength_7cf53 8 = .ok (.new 204, 3) := by decide +kernel
theorem dJ8_hugeLength_7cf53_11 : decode cJ8_hugeLength_7cf53 11 = .ok (.dup, 1) := by decide +kernel
theorem dJ8_hugeLength_7cf53_12 : decode cJ8_hugeLength_7cf53 12 = .ok (.new 89, 3) := by decide +kernel
theorem dJ8_hugeLength_7cf53_15 : decode cJ8_hugeLength_7cf53 15 = .ok (.dup, 1) := by decide +kernel
theorem dJ8_hugeLength_7cf53_16 : decode cJ8_hugeLength_7cf53 16 = .ok (.invokespecial 91, 3) := by decide +kernel
theorem dJ8_hugeLength_7cf53_19 : decode cJ8_hugeLength_7cf53 19 = .ok (.ldc 206, 2) := by decide +kernel
theorem dJ8_hugeLength_7cf53_21 : decode cJ8_hugeLength_7cf53 21 = .ok (.invokevirtual 94, 3) := by decide +kernel
theorem dJ8_hugeLength_7cf53_24 : decode cJ8_hugeLength_7cf53 24 = .ok (.iload_n 0, 1) := by decide +kernel
theorem dJ8_hugeLength_7cf53_25 : decode cJ8_hugeLength_7cf53 25 = .ok (.invokevirtual 98, 3) := by decide +kernel
theorem dJ8_hugeLength_7cf53_28 : decode cJ8_hugeLength_7cf53 28 = .ok (.ldc 208, 2) := by decide +kernel
theorem dJ8_hugeLength_7cf53_30 : decode cJ8_hugeLength_7cf53 30 = .ok (.invokevirtual 94, 3) := by decide +kernel
theorem dJ8_hugeLength_7cf53_33 : decode cJ8_hugeLength_7cf53 33 = .ok (.iload_n 1, 1) := by decide +kernel
theorem dJ8_hugeLength_7cf53_34 : decode cJ8_hugeLength_7cf53 34 = .ok (.invokevirtual 98, 3) := by decide +kernel
theorem dJ8_hugeLength_7cf53_37 : decode cJ8_hugeLength_7cf53 37 = .ok (.ldc 210, 2) := by decide +kernel
theorem dJ8_hugeLength_7cf53_39 : decode cJ8_hugeLength_7cf53 39 = .ok (.invokevirtual 94, 3) := by decide +kernel
theorem dJ8_hugeLength_7cf53_42 : decode cJ8_hugeLength_7cf53 42 = .ok (.invokevirtual 101, 3) := by decide +kernel
theorem dJ8_hugeLength_7cf53_45 : decode cJ8_hugeLength_7cf53 45 = .ok (.invokespecial 212, 3) := by decide +kernel
theorem dJ8_hugeLength_7cf53_48 : decode cJ8_hugeLength_7cf53 48 = .ok (.athrow, 1) := by decide +kernel
theorem dJ8_hugeLength_7cf53_49 : decode cJ8_hugeLength_7cf53 49 = .ok (.iload_n 2, 1) := by decide +kernel
theorem dJ8_hugeLength_7cf53_50 : decode cJ8_hugeLength_7cf53 50 = .ok (.ldc 200, 2) := by decide +kernel
theorem dJ8_hugeLength_7cf53_52 : decode cJ8_hugeLength_7cf53 52 = .ok (.if_icmp .gt 6, 3) := by decide +kernel
theorem dJ8_hugeLength_7cf53_55 : decode cJ8_hugeLength_7cf53 55 = .ok (.ldc 200, 2) := by decide +kernel
theorem dJ8_hugeLength_7cf53_57 : decode cJ8_hugeLength_7cf53 57 = .ok (.ireturn, 1) := by decide +kernel
theorem dJ8_hugeLength_7cf53_58 : decode cJ8_hugeLength_7cf53 58 = .ok (.iload_n 2, 1) := by decide +kernel
theorem dJ8_hugeLength_7cf53_59 : decode cJ8_hugeLength_7cf53 59 = .ok (.ireturn, 1) := by decide +kernel
theorem dJ3_checkIndex_8e157_0 : decode cJ3_checkIndex_8e157 0 = .ok (.iload_n 0, 1) := by decide +kernel
theorem dJ3_checkIndex_8e157_1 : decode cJ3_checkIndex_8e157 1 = .ok (.ifCond .lt 8, 3) := by decide +kernel
theorem dJ3_checkIndex_8e157_4 : decode cJ3_checkIndex_8e157 4 = .ok (.iload_n 0, 1) := by decide +kernel
theorem dJ3_checkIndex_8e157_5 : decode cJ3_checkIndex_8e157 5 = .ok (.iload_n 1, 1) := by decide +kernel
theorem dJ3_checkIndex_8e157_6 : decode cJ3_checkIndex_8e157 6 = .ok (.if_icmp .lt 10, 3) := by decide +kernel
theorem dJ3_checkIndex_8e157_9 : decode cJ3_checkIndex_8e157 9 = .ok (.aload_n 2, 1) := by decide +kernel
theorem dJ3_checkIndex_8e157_10 : decode cJ3_checkIndex_8e157 10 = .ok (.iload_n 0, 1) := by decide +kernel
theorem dJ3_checkIndex_8e157_11 : decode cJ3_checkIndex_8e157 11 = .ok (.iload_n 1, 1) := by decide +kernel
theorem dJ3_checkIndex_8e157_12 : decode cJ3_checkIndex_8e157 12 = .ok (.invokestatic 95, 3) := by decide +kernel
theorem dJ3_checkIndex_8e157_15 : decode cJ3_checkIndex_8e157 15 = .ok (.athrow, 1) := by decide +kernel
theorem dJ3_checkIndex_8e157_16 : decode cJ3_checkIndex_8e157 16 = .ok (.iload_n 0, 1) := by decide +kernel
theorem dJ3_checkIndex_8e157_17 : decode cJ3_checkIndex_8e157 17 = .ok (.ireturn, 1) := by decide +kernel
theorem dL_cell_0 : decode cL_cell 0 = .ok (.iload_n 1, 1) := by decide +kernel
theorem dL_cell_1 : decode cL_cell 1 = .ok (.aload_n 0, 1) := by decide +kernel
theorem dL_cell_2 : decode cL_cell 2 = .ok (.arraylength, 1) := by decide +kernel
theorem dL_cell_3 : decode cL_cell 3 = .ok (.if_icmp .ge 9, 3) := by decide +kernel
theorem dL_cell_6 : decode cL_cell 6 = .ok (.aload_n 0, 1) := by decide +kernel
theorem dL_cell_7 : decode cL_cell 7 = .ok (.iload_n 1, 1) := by decide +kernel
theorem dL_cell_8 : decode cL_cell 8 = .ok (.iaload, 1) := by decide +kernel
theorem dL_cell_9 : decode cL_cell 9 = .ok (.goto 4, 3) := by decide +kernel
theorem dL_cell_12 : decode cL_cell 12 = .ok (.iconst 0, 1) := by decide +kernel
theorem dL_cell_13 : decode cL_cell 13 = .ok (.ireturn, 1) := by decide +kernel
theorem dL_law_0 : decode cL_law 0 = .ok (.new 7, 3) := by decide +kernel
theorem dL_law_3 : decode cL_law 3 = .ok (.dup, 1) := by decide +kernel
theorem dL_law_4 : decode cL_law 4 = .ok (.aload_n 0, 1) := by decide +kernel
theorem dL_law_5 : decode cL_law 5 = .ok (.iconst 0, 1) := by decide +kernel
theorem dL_law_6 : decode cL_law 6 = .ok (.invokestatic 9, 3) := by decide +kernel
theorem dL_law_9 : decode cL_law 9 = .ok (.invokespecial 15, 3) := by decide +kernel
theorem dL_law_12 : decode cL_law 12 = .ok (.astore_n 1, 1) := by decide +kernel
theorem dL_law_13 : decode cL_law 13 = .ok (.new 18, 3) := by decide +kernel
theorem dL_law_16 : decode cL_law 16 = .ok (.dup, 1) := by decide +kernel
theorem dL_law_17 : decode cL_law 17 = .ok (.aload_n 0, 1) := by decide +kernel
theorem dL_law_18 : decode cL_law 18 = .ok (.iconst 0, 1) := by decide +kernel
theorem dL_law_19 : decode cL_law 19 = .ok (.invokestatic 9, 3) := by decide +kernel
theorem dL_law_22 : decode cL_law 22 = .ok (.invokespecial 20, 3) := by decide +kernel
theorem dL_law_25 : decode cL_law 25 = .ok (.astore_n 2, 1) := by decide +kernel
theorem dL_law_26 : decode cL_law 26 = .ok (.iconst 1, 1) := by decide +kernel
theorem dL_law_27 : decode cL_law 27 = .ok (.istore_n 3, 1) := by decide +kernel
theorem dL_law_28 : decode cL_law 28 = .ok (.iload_n 3, 1) := by decide +kernel
theorem dL_law_29 : decode cL_law 29 = .ok (.aload_n 0, 1) := by decide +kernel
theorem dL_law_30 : decode cL_law 30 = .ok (.arraylength, 1) := by decide +kernel
theorem dL_law_31 : decode cL_law 31 = .ok (.iconst 5, 1) := by decide +kernel
theorem dL_law_32 : decode cL_law 32 = .ok (.isub, 1) := by decide +kernel
theorem dL_law_33 : decode cL_law 33 = .ok (.if_icmp .gt 661, 3) := by decide +kernel
theorem dL_law_36 : decode cL_law 36 = .ok (.aload_n 0, 1) := by decide +kernel
theorem dL_law_37 : decode cL_law 37 = .ok (.iload_n 3, 1) := by decide +kernel
theorem dL_law_38 : decode cL_law 38 = .ok (.iaload, 1) := by decide +kernel
theorem dL_law_39 : decode cL_law 39 = .ok (.bipush 31, 2) := by decide +kernel
theorem dL_law_41 : decode cL_law 41 = .ok (.iand, 1) := by decide +kernel
theorem dL_law_42 : decode cL_law 42 = .ok (.tableswitch 646 0 17 #[86, 155, 188, 211, 254, 307, 340, 363, 386, 409, 422, 435, 468, 491, 534, 567, 600, 623], 86) := by decide +kernel
theorem dL_law_128 : decode cL_law 128 = .ok (.aload_n 1, 1) := by decide +kernel
theorem dL_law_129 : decode cL_law 129 = .ok (.aload_n 0, 1) := by decide +kernel
theorem dL_law_130 : decode cL_law 130 = .ok (.iload_n 3, 1) := by decide +kernel
theorem dL_law_131 : decode cL_law 131 = .ok (.iconst 1, 1) := by decide +kernel
theorem dL_law_132 : decode cL_law 132 = .ok (.iadd, 1) := by decide +kernel
theorem dL_law_133 : decode cL_law 133 = .ok (.iaload, 1) := by decide +kernel
theorem dL_law_134 : decode cL_law 134 = .ok (.aload_n 0, 1) := by decide +kernel
theorem dL_law_135 : decode cL_law 135 = .ok (.iload_n 3, 1) := by decide +kernel
theorem dL_law_136 : decode cL_law 136 = .ok (.iconst 2, 1) := by decide +kernel
theorem dL_law_137 : decode cL_law 137 = .ok (.iadd, 1) := by decide +kernel
theorem dL_law_138 : decode cL_law 138 = .ok (.iaload, 1) := by decide +kernel
theorem dL_law_139 : decode cL_law 139 = .ok (.ifCond .eq 7, 3) := by decide +kernel
theorem dL_law_142 : decode cL_law 142 = .ok (.iconst 1, 1) := by decide +kernel
theorem dL_law_143 : decode cL_law 143 = .ok (.goto 4, 3) := by decide +kernel
theorem dL_law_146 : decode cL_law 146 = .ok (.iconst 0, 1) := by decide +kernel
theorem dL_law_147 : decode cL_law 147 = .ok (.aload_n 0, 1) := by decide +kernel
theorem dL_law_148 : decode cL_law 148 = .ok (.iload_n 3, 1) := by decide +kernel
theorem dL_law_149 : decode cL_law 149 = .ok (.iconst 3, 1) := by decide +kernel
theorem dL_law_150 : decode cL_law 150 = .ok (.iadd, 1) := by decide +kernel
theorem dL_law_151 : decode cL_law 151 = .ok (.iaload, 1) := by decide +kernel
theorem dL_law_152 : decode cL_law 152 = .ok (.aload_n 0, 1) := by decide +kernel
theorem dL_law_153 : decode cL_law 153 = .ok (.iload_n 3, 1) := by decide +kernel
theorem dL_law_154 : decode cL_law 154 = .ok (.iconst 4, 1) := by decide +kernel
theorem dL_law_155 : decode cL_law 155 = .ok (.iadd, 1) := by decide +kernel
theorem dL_law_156 : decode cL_law 156 = .ok (.iaload, 1) := by decide +kernel
theorem dL_law_157 : decode cL_law 157 = .ok (.invokevirtual 21, 3) := by decide +kernel
theorem dL_law_160 : decode cL_law 160 = .ok (.aload_n 2, 1) := by decide +kernel
theorem dL_law_161 : decode cL_law 161 = .ok (.aload_n 0, 1) := by decide +kernel
theorem dL_law_162 : decode cL_law 162 = .ok (.iload_n 3, 1) := by decide +kernel
theorem dL_law_163 : decode cL_law 163 = .ok (.iconst 1, 1) := by decide +kernel
theorem dL_law_164 : decode cL_law 164 = .ok (.iadd, 1) := by decide +kernel
theorem dL_law_165 : decode cL_law 165 = .ok (.iaload, 1) := by decide +kernel
theorem dL_law_166 : decode cL_law 166 = .ok (.aload_n 0, 1) := by decide +kernel
theorem dL_law_167 : decode cL_law 167 = .ok (.iload_n 3, 1) := by decide +kernel
theorem dL_law_168 : decode cL_law 168 = .ok (.iconst 2, 1) := by decide +kernel
theorem dL_law_169 : decode cL_law 169 = .ok (.iadd, 1) := by decide +kernel
theorem dL_law_170 : decode cL_law 170 = .ok (.iaload, 1) := by decide +kernel
theorem dL_law_171 : decode cL_law 171 = .ok (.ifCond .eq 7, 3) := by decide +kernel
theorem dL_law_174 : decode cL_law 174 = .ok (.iconst 1, 1) := by decide +kernel
theorem dL_law_175 : decode cL_law 175 = .ok (.goto 4, 3) := by decide +kernel
theorem dL_law_178 : decode cL_law 178 = .ok (.iconst 0, 1) := by decide +kernel
theorem dL_law_179 : decode cL_law 179 = .ok (.aload_n 0, 1) := by decide +kernel
theorem dL_law_180 : decode cL_law 180 = .ok (.iload_n 3, 1) := by decide +kernel
theorem dL_law_181 : decode cL_law 181 = .ok (.iconst 3, 1) := by decide +kernel
theorem dL_law_182 : decode cL_law 182 = .ok (.iadd, 1) := by decide +kernel
theorem dL_law_183 : decode cL_law 183 = .ok (.iaload, 1) := by decide +kernel
theorem dL_law_184 : decode cL_law 184 = .ok (.aload_n 0, 1) := by decide +kernel
theorem dL_law_185 : decode cL_law 185 = .ok (.iload_n 3, 1) := by decide +kernel
theorem dL_law_186 : decode cL_law 186 = .ok (.iconst 4, 1) := by decide +kernel
theorem dL_law_187 : decode cL_law 187 = .ok (.iadd, 1) := by decide +kernel
theorem dL_law_188 : decode cL_law 188 = .ok (.iaload, 1) := by decide +kernel
theorem dL_law_189 : decode cL_law 189 = .ok (.invokevirtual 25, 3) := by decide +kernel
theorem dL_law_192 : decode cL_law 192 = .ok (.if_icmp .eq 496, 3) := by decide +kernel
theorem dL_law_195 : decode cL_law 195 = .ok (.iconst 0, 1) := by decide +kernel
theorem dL_law_196 : decode cL_law 196 = .ok (.ireturn, 1) := by decide +kernel
theorem dL_law_197 : decode cL_law 197 = .ok (.aload_n 1, 1) := by decide +kernel
theorem dL_law_198 : decode cL_law 198 = .ok (.aload_n 0, 1) := by decide +kernel
theorem dL_law_199 : decode cL_law 199 = .ok (.iload_n 3, 1) := by decide +kernel
theorem dL_law_200 : decode cL_law 200 = .ok (.iconst 1, 1) := by decide +kernel
theorem dL_law_201 : decode cL_law 201 = .ok (.iadd, 1) := by decide +kernel
theorem dL_law_202 : decode cL_law 202 = .ok (.iaload, 1) := by decide +kernel
theorem dL_law_203 : decode cL_law 203 = .ok (.aload_n 0, 1) := by decide +kernel
theorem dL_law_204 : decode cL_law 204 = .ok (.iload_n 3, 1) := by decide +kernel
theorem dL_law_205 : decode cL_law 205 = .ok (.iconst 2, 1) := by decide +kernel
theorem dL_law_206 : decode cL_law 206 = .ok (.iadd, 1) := by decide +kernel
theorem dL_law_207 : decode cL_law 207 = .ok (.iaload, 1) := by decide +kernel
theorem dL_law_208 : decode cL_law 208 = .ok (.invokevirtual 26, 3) := by decide +kernel
theorem dL_law_211 : decode cL_law 211 = .ok (.aload_n 2, 1) := by decide +kernel
theorem dL_law_212 : decode cL_law 212 = .ok (.aload_n 0, 1) := by decide +kernel
theorem dL_law_213 : decode cL_law 213 = .ok (.iload_n 3, 1) := by decide +kernel
theorem dL_law_214 : decode cL_law 214 = .ok (.iconst 1, 1) := by decide +kernel
theorem dL_law_215 : decode cL_law 215 = .ok (.iadd, 1) := by decide +kernel
theorem dL_law_216 : decode cL_law 216 = .ok (.iaload, 1) := by decide +kernel
theorem dL_law_217 : decode cL_law 217 = .ok (.aload_n 0, 1) := by decide +kernel
theorem dL_law_218 : decode cL_law 218 = .ok (.iload_n 3, 1) := by decide +kernel
theorem dL_law_219 : decode cL_law 219 = .ok (.iconst 2, 1) := by decide +kernel
theorem dL_law_220 : decode cL_law 220 = .ok (.iadd, 1) := by decide +kernel
theorem dL_law_221 : decode cL_law 221 = .ok (.iaload, 1) := by decide +kernel
theorem dL_law_222 : decode cL_law 222 = .ok (.invokevirtual 30, 3) := by decide +kernel
theorem dL_law_225 : decode cL_law 225 = .ok (.if_icmp .eq 463, 3) := by decide +kernel
theorem dL_law_228 : decode cL_law 228 = .ok (.iconst 0, 1) := by decide +kernel
theorem dL_law_229 : decode cL_law 229 = .ok (.ireturn, 1) := by decide +kernel
theorem dL_law_230 : decode cL_law 230 = .ok (.aload_n 1, 1) := by decide +kernel
theorem dL_law_231 : decode cL_law 231 = .ok (.aload_n 0, 1) := by decide +kernel
theorem dL_law_232 : decode cL_law 232 = .ok (.iload_n 3, 1) := by decide +kernel
theorem dL_law_233 : decode cL_law 233 = .ok (.iconst 1, 1) := by decide +kernel
theorem dL_law_234 : decode cL_law 234 = .ok (.iadd, 1) := by decide +kernel
theorem dL_law_235 : decode cL_law 235 = .ok (.iaload, 1) := by decide +kernel
theorem dL_law_236 : decode cL_law 236 = .ok (.invokevirtual 31, 3) := by decide +kernel
theorem dL_law_239 : decode cL_law 239 = .ok (.aload_n 2, 1) := by decide +kernel
theorem dL_law_240 : decode cL_law 240 = .ok (.aload_n 0, 1) := by decide +kernel
theorem dL_law_241 : decode cL_law 241 = .ok (.iload_n 3, 1) := by decide +kernel
theorem dL_law_242 : decode cL_law 242 = .ok (.iconst 1, 1) := by decide +kernel
theorem dL_law_243 : decode cL_law 243 = .ok (.iadd, 1) := by decide +kernel
theorem dL_law_244 : decode cL_law 244 = .ok (.iaload, 1) := by decide +kernel
theorem dL_law_245 : decode cL_law 245 = .ok (.invokevirtual 35, 3) := by decide +kernel
theorem dL_law_248 : decode cL_law 248 = .ok (.if_icmp .eq 440, 3) := by decide +kernel
theorem dL_law_251 : decode cL_law 251 = .ok (.iconst 0, 1) := by decide +kernel
theorem dL_law_252 : decode cL_law 252 = .ok (.ireturn, 1) := by decide +kernel
theorem dL_law_253 : decode cL_law 253 = .ok (.aload_n 1, 1) := by decide +kernel
theorem dL_law_254 : decode cL_law 254 = .ok (.aload_n 0, 1) := by decide +kernel
theorem dL_law_255 : decode cL_law 255 = .ok (.iload_n 3, 1) := by decide +kernel
theorem dL_law_256 : decode cL_law 256 = .ok (.iconst 1, 1) := by decide +kernel
theorem dL_law_257 : decode cL_law 257 = .ok (.iadd, 1) := by decide +kernel
theorem dL_law_258 : decode cL_law 258 = .ok (.iaload, 1) := by decide +kernel
theorem dL_law_259 : decode cL_law 259 = .ok (.aload_n 0, 1) := by decide +kernel
theorem dL_law_260 : decode cL_law 260 = .ok (.iload_n 3, 1) := by decide +kernel
theorem dL_law_261 : decode cL_law 261 = .ok (.iconst 2, 1) := by decide +kernel
theorem dL_law_262 : decode cL_law 262 = .ok (.iadd, 1) := by decide +kernel
theorem dL_law_263 : decode cL_law 263 = .ok (.iaload, 1) := by decide +kernel
theorem dL_law_264 : decode cL_law 264 = .ok (.aload_n 0, 1) := by decide +kernel
theorem dL_law_265 : decode cL_law 265 = .ok (.iload_n 3, 1) := by decide +kernel
theorem dL_law_266 : decode cL_law 266 = .ok (.iconst 3, 1) := by decide +kernel
theorem dL_law_267 : decode cL_law 267 = .ok (.iadd, 1) := by decide +kernel
theorem dL_law_268 : decode cL_law 268 = .ok (.iaload, 1) := by decide +kernel
theorem dL_law_269 : decode cL_law 269 = .ok (.invokevirtual 36, 3) := by decide +kernel
theorem dL_law_272 : decode cL_law 272 = .ok (.aload_n 2, 1) := by decide +kernel
theorem dL_law_273 : decode cL_law 273 = .ok (.aload_n 0, 1) := by decide +kernel
theorem dL_law_274 : decode cL_law 274 = .ok (.iload_n 3, 1) := by decide +kernel
theorem dL_law_275 : decode cL_law 275 = .ok (.iconst 1, 1) := by decide +kernel
theorem dL_law_276 : decode cL_law 276 = .ok (.iadd, 1) := by decide +kernel
theorem dL_law_277 : decode cL_law 277 = .ok (.iaload, 1) := by decide +kernel
theorem dL_law_278 : decode cL_law 278 = .ok (.aload_n 0, 1) := by decide +kernel
theorem dL_law_279 : decode cL_law 279 = .ok (.iload_n 3, 1) := by decide +kernel
theorem dL_law_280 : decode cL_law 280 = .ok (.iconst 2, 1) := by decide +kernel
theorem dL_law_281 : decode cL_law 281 = .ok (.iadd, 1) := by decide +kernel
theorem dL_law_282 : decode cL_law 282 = .ok (.iaload, 1) := by decide +kernel
theorem dL_law_283 : decode cL_law 283 = .ok (.aload_n 0, 1) := by decide +kernel
theorem dL_law_284 : decode cL_law 284 = .ok (.iload_n 3, 1) := by decide +kernel
theorem dL_law_285 : decode cL_law 285 = .ok (.iconst 3, 1) := by decide +kernel
theorem dL_law_286 : decode cL_law 286 = .ok (.iadd, 1) := by decide +kernel
theorem dL_law_287 : decode cL_law 287 = .ok (.iaload, 1) := by decide +kernel
theorem dL_law_288 : decode cL_law 288 = .ok (.invokevirtual 40, 3) := by decide +kernel
theorem dL_law_291 : decode cL_law 291 = .ok (.if_icmp .eq 397, 3) := by decide +kernel
theorem dL_law_294 : decode cL_law 294 = .ok (.iconst 0, 1) := by decide +kernel
theorem dL_law_295 : decode cL_law 295 = .ok (.ireturn, 1) := by decide +kernel
theorem dL_law_296 : decode cL_law 296 = .ok (.aload_n 1, 1) := by decide +kernel
theorem dL_law_297 : decode cL_law 297 = .ok (.aload_n 0, 1) := by decide +kernel
theorem dL_law_298 : decode cL_law 298 = .ok (.iload_n 3, 1) := by decide +kernel
theorem dL_law_299 : decode cL_law 299 = .ok (.iconst 1, 1) := by decide +kernel
theorem dL_law_300 : decode cL_law 300 = .ok (.iadd, 1) := by decide +kernel
theorem dL_law_301 : decode cL_law 301 = .ok (.iaload, 1) := by decide +kernel
theorem dL_law_302 : decode cL_law 302 = .ok (.aload_n 0, 1) := by decide +kernel
theorem dL_law_303 : decode cL_law 303 = .ok (.iload_n 3, 1) := by decide +kernel
theorem dL_law_304 : decode cL_law 304 = .ok (.iconst 2, 1) := by decide +kernel
theorem dL_law_305 : decode cL_law 305 = .ok (.iadd, 1) := by decide +kernel
theorem dL_law_306 : decode cL_law 306 = .ok (.iaload, 1) := by decide +kernel
theorem dL_law_307 : decode cL_law 307 = .ok (.aload_n 0, 1) := by decide +kernel
theorem dL_law_308 : decode cL_law 308 = .ok (.iload_n 3, 1) := by decide +kernel
theorem dL_law_309 : decode cL_law 309 = .ok (.iconst 3, 1) := by decide +kernel
theorem dL_law_310 : decode cL_law 310 = .ok (.iadd, 1) := by decide +kernel
theorem dL_law_311 : decode cL_law 311 = .ok (.iaload, 1) := by decide +kernel
theorem dL_law_312 : decode cL_law 312 = .ok (.aload_n 0, 1) := by decide +kernel
theorem dL_law_313 : decode cL_law 313 = .ok (.iload_n 3, 1) := by decide +kernel
theorem dL_law_314 : decode cL_law 314 = .ok (.iconst 4, 1) := by decide +kernel
theorem dL_law_315 : decode cL_law 315 = .ok (.iadd, 1) := by decide +kernel
theorem dL_law_316 : decode cL_law 316 = .ok (.iaload, 1) := by decide +kernel
theorem dL_law_317 : decode cL_law 317 = .ok (.invokevirtual 41, 3) := by decide +kernel
theorem dL_law_320 : decode cL_law 320 = .ok (.aload_n 2, 1) := by decide +kernel
theorem dL_law_321 : decode cL_law 321 = .ok (.aload_n 0, 1) := by decide +kernel
theorem dL_law_322 : decode cL_law 322 = .ok (.iload_n 3, 1) := by decide +kernel
theorem dL_law_323 : decode cL_law 323 = .ok (.iconst 1, 1) := by decide +kernel
theorem dL_law_324 : decode cL_law 324 = .ok (.iadd, 1) := by decide +kernel
theorem dL_law_325 : decode cL_law 325 = .ok (.iaload, 1) := by decide +kernel
theorem dL_law_326 : decode cL_law 326 = .ok (.aload_n 0, 1) := by decide +kernel
theorem dL_law_327 : decode cL_law 327 = .ok (.iload_n 3, 1) := by decide +kernel
theorem dL_law_328 : decode cL_law 328 = .ok (.iconst 2, 1) := by decide +kernel
theorem dL_law_329 : decode cL_law 329 = .ok (.iadd, 1) := by decide +kernel
theorem dL_law_330 : decode cL_law 330 = .ok (.iaload, 1) := by decide +kernel
theorem dL_law_331 : decode cL_law 331 = .ok (.aload_n 0, 1) := by decide +kernel
theorem dL_law_332 : decode cL_law 332 = .ok (.iload_n 3, 1) := by decide +kernel
theorem dL_law_333 : decode cL_law 333 = .ok (.iconst 3, 1) := by decide +kernel
theorem dL_law_334 : decode cL_law 334 = .ok (.iadd, 1) := by decide +kernel
theorem dL_law_335 : decode cL_law 335 = .ok (.iaload, 1) := by decide +kernel
theorem dL_law_336 : decode cL_law 336 = .ok (.aload_n 0, 1) := by decide +kernel
theorem dL_law_337 : decode cL_law 337 = .ok (.iload_n 3, 1) := by decide +kernel
theorem dL_law_338 : decode cL_law 338 = .ok (.iconst 4, 1) := by decide +kernel
theorem dL_law_339 : decode cL_law 339 = .ok (.iadd, 1) := by decide +kernel
theorem dL_law_340 : decode cL_law 340 = .ok (.iaload, 1) := by decide +kernel
theorem dL_law_341 : decode cL_law 341 = .ok (.invokevirtual 45, 3) := by decide +kernel
theorem dL_law_344 : decode cL_law 344 = .ok (.if_icmp .eq 344, 3) := by decide +kernel
theorem dL_law_347 : decode cL_law 347 = .ok (.iconst 0, 1) := by decide +kernel
theorem dL_law_348 : decode cL_law 348 = .ok (.ireturn, 1) := by decide +kernel
theorem dL_law_349 : decode cL_law 349 = .ok (.aload_n 1, 1) := by decide +kernel
theorem dL_law_350 : decode cL_law 350 = .ok (.aload_n 0, 1) := by decide +kernel
theorem dL_law_351 : decode cL_law 351 = .ok (.iload_n 3, 1) := by decide +kernel
theorem dL_law_352 : decode cL_law 352 = .ok (.iconst 1, 1) := by decide +kernel
theorem dL_law_353 : decode cL_law 353 = .ok (.iadd, 1) := by decide +kernel
theorem dL_law_354 : decode cL_law 354 = .ok (.iaload, 1) := by decide +kernel
theorem dL_law_355 : decode cL_law 355 = .ok (.aload_n 0, 1) := by decide +kernel
theorem dL_law_356 : decode cL_law 356 = .ok (.iload_n 3, 1) := by decide +kernel
theorem dL_law_357 : decode cL_law 357 = .ok (.iconst 2, 1) := by decide +kernel
theorem dL_law_358 : decode cL_law 358 = .ok (.iadd, 1) := by decide +kernel
theorem dL_law_359 : decode cL_law 359 = .ok (.iaload, 1) := by decide +kernel
theorem dL_law_360 : decode cL_law 360 = .ok (.invokevirtual 46, 3) := by decide +kernel
theorem dL_law_363 : decode cL_law 363 = .ok (.aload_n 2, 1) := by decide +kernel
theorem dL_law_364 : decode cL_law 364 = .ok (.aload_n 0, 1) := by decide +kernel
theorem dL_law_365 : decode cL_law 365 = .ok (.iload_n 3, 1) := by decide +kernel
theorem dL_law_366 : decode cL_law 366 = .ok (.iconst 1, 1) := by decide +kernel
theorem dL_law_367 : decode cL_law 367 = .ok (.iadd, 1) := by decide +kernel
theorem dL_law_368 : decode cL_law 368 = .ok (.iaload, 1) := by decide +kernel
theorem dL_law_369 : decode cL_law 369 = .ok (.aload_n 0, 1) := by decide +kernel
theorem dL_law_370 : decode cL_law 370 = .ok (.iload_n 3, 1) := by decide +kernel
theorem dL_law_371 : decode cL_law 371 = .ok (.iconst 2, 1) := by decide +kernel
theorem dL_law_372 : decode cL_law 372 = .ok (.iadd, 1) := by decide +kernel
theorem dL_law_373 : decode cL_law 373 = .ok (.iaload, 1) := by decide +kernel
theorem dL_law_374 : decode cL_law 374 = .ok (.invokevirtual 49, 3) := by decide +kernel
theorem dL_law_377 : decode cL_law 377 = .ok (.if_icmp .eq 311, 3) := by decide +kernel
theorem dL_law_380 : decode cL_law 380 = .ok (.iconst 0, 1) := by decide +kernel
theorem dL_law_381 : decode cL_law 381 = .ok (.ireturn, 1) := by decide +kernel
theorem dL_law_382 : decode cL_law 382 = .ok (.aload_n 1, 1) := by decide +kernel
theorem dL_law_383 : decode cL_law 383 = .ok (.aload_n 0, 1) := by decide +kernel
theorem dL_law_384 : decode cL_law 384 = .ok (.iload_n 3, 1) := by decide +kernel
theorem dL_law_385 : decode cL_law 385 = .ok (.iconst 1, 1) := by decide +kernel
theorem dL_law_386 : decode cL_law 386 = .ok (.iadd, 1) := by decide +kernel
theorem dL_law_387 : decode cL_law 387 = .ok (.iaload, 1) := by decide +kernel
theorem dL_law_388 : decode cL_law 388 = .ok (.invokevirtual 50, 3) := by decide +kernel
theorem dL_law_391 : decode cL_law 391 = .ok (.aload_n 2, 1) := by decide +kernel
theorem dL_law_392 : decode cL_law 392 = .ok (.aload_n 0, 1) := by decide +kernel
theorem dL_law_393 : decode cL_law 393 = .ok (.iload_n 3, 1) := by decide +kernel
theorem dL_law_394 : decode cL_law 394 = .ok (.iconst 1, 1) := by decide +kernel
theorem dL_law_395 : decode cL_law 395 = .ok (.iadd, 1) := by decide +kernel
theorem dL_law_396 : decode cL_law 396 = .ok (.iaload, 1) := by decide +kernel
theorem dL_law_397 : decode cL_law 397 = .ok (.invokevirtual 54, 3) := by decide +kernel
theorem dL_law_400 : decode cL_law 400 = .ok (.if_icmp .eq 288, 3) := by decide +kernel
theorem dL_law_403 : decode cL_law 403 = .ok (.iconst 0, 1) := by decide +kernel
theorem dL_law_404 : decode cL_law 404 = .ok (.ireturn, 1) := by decide +kernel
theorem dL_law_405 : decode cL_law 405 = .ok (.aload_n 1, 1) := by decide +kernel
theorem dL_law_406 : decode cL_law 406 = .ok (.aload_n 0, 1) := by decide +kernel
theorem dL_law_407 : decode cL_law 407 = .ok (.iload_n 3, 1) := by decide +kernel
theorem dL_law_408 : decode cL_law 408 = .ok (.iconst 1, 1) := by decide +kernel
theorem dL_law_409 : decode cL_law 409 = .ok (.iadd, 1) := by decide +kernel
theorem dL_law_410 : decode cL_law 410 = .ok (.iaload, 1) := by decide +kernel
theorem dL_law_411 : decode cL_law 411 = .ok (.invokevirtual 55, 3) := by decide +kernel
theorem dL_law_414 : decode cL_law 414 = .ok (.aload_n 2, 1) := by decide +kernel
theorem dL_law_415 : decode cL_law 415 = .ok (.aload_n 0, 1) := by decide +kernel
theorem dL_law_416 : decode cL_law 416 = .ok (.iload_n 3, 1) := by decide +kernel
theorem dL_law_417 : decode cL_law 417 = .ok (.iconst 1, 1) := by decide +kernel
theorem dL_law_418 : decode cL_law 418 = .ok (.iadd, 1) := by decide +kernel
theorem dL_law_419 : decode cL_law 419 = .ok (.iaload, 1) := by decide +kernel
theorem dL_law_420 : decode cL_law 420 = .ok (.invokevirtual 58, 3) := by decide +kernel
theorem dL_law_423 : decode cL_law 423 = .ok (.if_icmp .eq 265, 3) := by decide +kernel
theorem dL_law_426 : decode cL_law 426 = .ok (.iconst 0, 1) := by decide +kernel
theorem dL_law_427 : decode cL_law 427 = .ok (.ireturn, 1) := by decide +kernel
theorem dL_law_428 : decode cL_law 428 = .ok (.aload_n 1, 1) := by decide +kernel
theorem dL_law_429 : decode cL_law 429 = .ok (.aload_n 0, 1) := by decide +kernel
theorem dL_law_430 : decode cL_law 430 = .ok (.iload_n 3, 1) := by decide +kernel
theorem dL_law_431 : decode cL_law 431 = .ok (.iconst 1, 1) := by decide +kernel
theorem dL_law_432 : decode cL_law 432 = .ok (.iadd, 1) := by decide +kernel
theorem dL_law_433 : decode cL_law 433 = .ok (.iaload, 1) := by decide +kernel
theorem dL_law_434 : decode cL_law 434 = .ok (.invokevirtual 59, 3) := by decide +kernel
theorem dL_law_437 : decode cL_law 437 = .ok (.aload_n 2, 1) := by decide +kernel
theorem dL_law_438 : decode cL_law 438 = .ok (.aload_n 0, 1) := by decide +kernel
theorem dL_law_439 : decode cL_law 439 = .ok (.iload_n 3, 1) := by decide +kernel
theorem dL_law_440 : decode cL_law 440 = .ok (.iconst 1, 1) := by decide +kernel
theorem dL_law_441 : decode cL_law 441 = .ok (.iadd, 1) := by decide +kernel
theorem dL_law_442 : decode cL_law 442 = .ok (.iaload, 1) := by decide +kernel
theorem dL_law_443 : decode cL_law 443 = .ok (.invokevirtual 62, 3) := by decide +kernel
theorem dL_law_446 : decode cL_law 446 = .ok (.if_icmp .eq 242, 3) := by decide +kernel
theorem dL_law_449 : decode cL_law 449 = .ok (.iconst 0, 1) := by decide +kernel
theorem dL_law_450 : decode cL_law 450 = .ok (.ireturn, 1) := by decide +kernel
theorem dL_law_451 : decode cL_law 451 = .ok (.aload_n 1, 1) := by decide +kernel
theorem dL_law_452 : decode cL_law 452 = .ok (.invokevirtual 63, 3) := by decide +kernel
theorem dL_law_455 : decode cL_law 455 = .ok (.aload_n 2, 1) := by decide +kernel
theorem dL_law_456 : decode cL_law 456 = .ok (.invokevirtual 67, 3) := by decide +kernel
theorem dL_law_459 : decode cL_law 459 = .ok (.if_icmp .eq 229, 3) := by decide +kernel
theorem dL_law_462 : decode cL_law 462 = .ok (.iconst 0, 1) := by decide +kernel
theorem dL_law_463 : decode cL_law 463 = .ok (.ireturn, 1) := by decide +kernel
theorem dL_law_464 : decode cL_law 464 = .ok (.aload_n 1, 1) := by decide +kernel
theorem dL_law_465 : decode cL_law 465 = .ok (.invokevirtual 68, 3) := by decide +kernel
theorem dL_law_468 : decode cL_law 468 = .ok (.aload_n 2, 1) := by decide +kernel
theorem dL_law_469 : decode cL_law 469 = .ok (.invokevirtual 71, 3) := by decide +kernel
theorem dL_law_472 : decode cL_law 472 = .ok (.if_icmp .eq 216, 3) := by decide +kernel
theorem dL_law_475 : decode cL_law 475 = .ok (.iconst 0, 1) := by decide +kernel
theorem dL_law_476 : decode cL_law 476 = .ok (.ireturn, 1) := by decide +kernel
theorem dL_law_477 : decode cL_law 477 = .ok (.aload_n 1, 1) := by decide +kernel
theorem dL_law_478 : decode cL_law 478 = .ok (.aload_n 0, 1) := by decide +kernel
theorem dL_law_479 : decode cL_law 479 = .ok (.iload_n 3, 1) := by decide +kernel
theorem dL_law_480 : decode cL_law 480 = .ok (.iconst 1, 1) := by decide +kernel
theorem dL_law_481 : decode cL_law 481 = .ok (.iadd, 1) := by decide +kernel
theorem dL_law_482 : decode cL_law 482 = .ok (.iaload, 1) := by decide +kernel
theorem dL_law_483 : decode cL_law 483 = .ok (.aload_n 0, 1) := by decide +kernel
theorem dL_law_484 : decode cL_law 484 = .ok (.iload_n 3, 1) := by decide +kernel
theorem dL_law_485 : decode cL_law 485 = .ok (.iconst 2, 1) := by decide +kernel
theorem dL_law_486 : decode cL_law 486 = .ok (.iadd, 1) := by decide +kernel
theorem dL_law_487 : decode cL_law 487 = .ok (.iaload, 1) := by decide +kernel
theorem dL_law_488 : decode cL_law 488 = .ok (.invokevirtual 72, 3) := by decide +kernel
theorem dL_law_491 : decode cL_law 491 = .ok (.aload_n 2, 1) := by decide +kernel
theorem dL_law_492 : decode cL_law 492 = .ok (.aload_n 0, 1) := by decide +kernel
theorem dL_law_493 : decode cL_law 493 = .ok (.iload_n 3, 1) := by decide +kernel
theorem dL_law_494 : decode cL_law 494 = .ok (.iconst 1, 1) := by decide +kernel
theorem dL_law_495 : decode cL_law 495 = .ok (.iadd, 1) := by decide +kernel
theorem dL_law_496 : decode cL_law 496 = .ok (.iaload, 1) := by decide +kernel
theorem dL_law_497 : decode cL_law 497 = .ok (.aload_n 0, 1) := by decide +kernel
theorem dL_law_498 : decode cL_law 498 = .ok (.iload_n 3, 1) := by decide +kernel
theorem dL_law_499 : decode cL_law 499 = .ok (.iconst 2, 1) := by decide +kernel
theorem dL_law_500 : decode cL_law 500 = .ok (.iadd, 1) := by decide +kernel
theorem dL_law_501 : decode cL_law 501 = .ok (.iaload, 1) := by decide +kernel
theorem dL_law_502 : decode cL_law 502 = .ok (.invokevirtual 76, 3) := by decide +kernel
theorem dL_law_505 : decode cL_law 505 = .ok (.if_icmp .eq 183, 3) := by decide +kernel
theorem dL_law_508 : decode cL_law 508 = .ok (.iconst 0, 1) := by decide +kernel
theorem dL_law_509 : decode cL_law 509 = .ok (.ireturn, 1) := by decide +kernel
theorem dL_law_510 : decode cL_law 510 = .ok (.aload_n 1, 1) := by decide +kernel
theorem dL_law_511 : decode cL_law 511 = .ok (.aload_n 0, 1) := by decide +kernel
theorem dL_law_512 : decode cL_law 512 = .ok (.iload_n 3, 1) := by decide +kernel
theorem dL_law_513 : decode cL_law 513 = .ok (.iconst 1, 1) := by decide +kernel
theorem dL_law_514 : decode cL_law 514 = .ok (.iadd, 1) := by decide +kernel
theorem dL_law_515 : decode cL_law 515 = .ok (.iaload, 1) := by decide +kernel
theorem dL_law_516 : decode cL_law 516 = .ok (.invokevirtual 77, 3) := by decide +kernel
theorem dL_law_519 : decode cL_law 519 = .ok (.aload_n 2, 1) := by decide +kernel
theorem dL_law_520 : decode cL_law 520 = .ok (.aload_n 0, 1) := by decide +kernel
theorem dL_law_521 : decode cL_law 521 = .ok (.iload_n 3, 1) := by decide +kernel
theorem dL_law_522 : decode cL_law 522 = .ok (.iconst 1, 1) := by decide +kernel
theorem dL_law_523 : decode cL_law 523 = .ok (.iadd, 1) := by decide +kernel
theorem dL_law_524 : decode cL_law 524 = .ok (.iaload, 1) := by decide +kernel
theorem dL_law_525 : decode cL_law 525 = .ok (.invokevirtual 80, 3) := by decide +kernel
theorem dL_law_528 : decode cL_law 528 = .ok (.if_icmp .eq 160, 3) := by decide +kernel
theorem dL_law_531 : decode cL_law 531 = .ok (.iconst 0, 1) := by decide +kernel
theorem dL_law_532 : decode cL_law 532 = .ok (.ireturn, 1) := by decide +kernel
theorem dL_law_533 : decode cL_law 533 = .ok (.aload_n 1, 1) := by decide +kernel
theorem dL_law_534 : decode cL_law 534 = .ok (.aload_n 0, 1) := by decide +kernel
theorem dL_law_535 : decode cL_law 535 = .ok (.iload_n 3, 1) := by decide +kernel
theorem dL_law_536 : decode cL_law 536 = .ok (.iconst 1, 1) := by decide +kernel
theorem dL_law_537 : decode cL_law 537 = .ok (.iadd, 1) := by decide +kernel
theorem dL_law_538 : decode cL_law 538 = .ok (.iaload, 1) := by decide +kernel
theorem dL_law_539 : decode cL_law 539 = .ok (.aload_n 0, 1) := by decide +kernel
theorem dL_law_540 : decode cL_law 540 = .ok (.iload_n 3, 1) := by decide +kernel
theorem dL_law_541 : decode cL_law 541 = .ok (.iconst 2, 1) := by decide +kernel
theorem dL_law_542 : decode cL_law 542 = .ok (.iadd, 1) := by decide +kernel
theorem dL_law_543 : decode cL_law 543 = .ok (.iaload, 1) := by decide +kernel
theorem dL_law_544 : decode cL_law 544 = .ok (.aload_n 0, 1) := by decide +kernel
theorem dL_law_545 : decode cL_law 545 = .ok (.iload_n 3, 1) := by decide +kernel
theorem dL_law_546 : decode cL_law 546 = .ok (.iconst 3, 1) := by decide +kernel
theorem dL_law_547 : decode cL_law 547 = .ok (.iadd, 1) := by decide +kernel
theorem dL_law_548 : decode cL_law 548 = .ok (.iaload, 1) := by decide +kernel
theorem dL_law_549 : decode cL_law 549 = .ok (.invokevirtual 81, 3) := by decide +kernel
theorem dL_law_552 : decode cL_law 552 = .ok (.aload_n 2, 1) := by decide +kernel
theorem dL_law_553 : decode cL_law 553 = .ok (.aload_n 0, 1) := by decide +kernel
theorem dL_law_554 : decode cL_law 554 = .ok (.iload_n 3, 1) := by decide +kernel
theorem dL_law_555 : decode cL_law 555 = .ok (.iconst 1, 1) := by decide +kernel
theorem dL_law_556 : decode cL_law 556 = .ok (.iadd, 1) := by decide +kernel
theorem dL_law_557 : decode cL_law 557 = .ok (.iaload, 1) := by decide +kernel
theorem dL_law_558 : decode cL_law 558 = .ok (.aload_n 0, 1) := by decide +kernel
theorem dL_law_559 : decode cL_law 559 = .ok (.iload_n 3, 1) := by decide +kernel
theorem dL_law_560 : decode cL_law 560 = .ok (.iconst 2, 1) := by decide +kernel
theorem dL_law_561 : decode cL_law 561 = .ok (.iadd, 1) := by decide +kernel
theorem dL_law_562 : decode cL_law 562 = .ok (.iaload, 1) := by decide +kernel
theorem dL_law_563 : decode cL_law 563 = .ok (.aload_n 0, 1) := by decide +kernel
theorem dL_law_564 : decode cL_law 564 = .ok (.iload_n 3, 1) := by decide +kernel
theorem dL_law_565 : decode cL_law 565 = .ok (.iconst 3, 1) := by decide +kernel
theorem dL_law_566 : decode cL_law 566 = .ok (.iadd, 1) := by decide +kernel
theorem dL_law_567 : decode cL_law 567 = .ok (.iaload, 1) := by decide +kernel
theorem dL_law_568 : decode cL_law 568 = .ok (.invokevirtual 84, 3) := by decide +kernel
theorem dL_law_571 : decode cL_law 571 = .ok (.if_icmp .eq 117, 3) := by decide +kernel
theorem dL_law_574 : decode cL_law 574 = .ok (.iconst 0, 1) := by decide +kernel
theorem dL_law_575 : decode cL_law 575 = .ok (.ireturn, 1) := by decide +kernel
theorem dL_law_576 : decode cL_law 576 = .ok (.aload_n 1, 1) := by decide +kernel
theorem dL_law_577 : decode cL_law 577 = .ok (.aload_n 0, 1) := by decide +kernel
theorem dL_law_578 : decode cL_law 578 = .ok (.iload_n 3, 1) := by decide +kernel
theorem dL_law_579 : decode cL_law 579 = .ok (.iconst 1, 1) := by decide +kernel
theorem dL_law_580 : decode cL_law 580 = .ok (.iadd, 1) := by decide +kernel
theorem dL_law_581 : decode cL_law 581 = .ok (.iaload, 1) := by decide +kernel
theorem dL_law_582 : decode cL_law 582 = .ok (.aload_n 0, 1) := by decide +kernel
theorem dL_law_583 : decode cL_law 583 = .ok (.iload_n 3, 1) := by decide +kernel
theorem dL_law_584 : decode cL_law 584 = .ok (.iconst 2, 1) := by decide +kernel
theorem dL_law_585 : decode cL_law 585 = .ok (.iadd, 1) := by decide +kernel
theorem dL_law_586 : decode cL_law 586 = .ok (.iaload, 1) := by decide +kernel
theorem dL_law_587 : decode cL_law 587 = .ok (.invokevirtual 85, 3) := by decide +kernel
theorem dL_law_590 : decode cL_law 590 = .ok (.aload_n 2, 1) := by decide +kernel
theorem dL_law_591 : decode cL_law 591 = .ok (.aload_n 0, 1) := by decide +kernel
theorem dL_law_592 : decode cL_law 592 = .ok (.iload_n 3, 1) := by decide +kernel
theorem dL_law_593 : decode cL_law 593 = .ok (.iconst 1, 1) := by decide +kernel
theorem dL_law_594 : decode cL_law 594 = .ok (.iadd, 1) := by decide +kernel
theorem dL_law_595 : decode cL_law 595 = .ok (.iaload, 1) := by decide +kernel
theorem dL_law_596 : decode cL_law 596 = .ok (.aload_n 0, 1) := by decide +kernel
theorem dL_law_597 : decode cL_law 597 = .ok (.iload_n 3, 1) := by decide +kernel
theorem dL_law_598 : decode cL_law 598 = .ok (.iconst 2, 1) := by decide +kernel
theorem dL_law_599 : decode cL_law 599 = .ok (.iadd, 1) := by decide +kernel
theorem dL_law_600 : decode cL_law 600 = .ok (.iaload, 1) := by decide +kernel
theorem dL_law_601 : decode cL_law 601 = .ok (.invokevirtual 88, 3) := by decide +kernel
theorem dL_law_604 : decode cL_law 604 = .ok (.if_icmp .eq 84, 3) := by decide +kernel
theorem dL_law_607 : decode cL_law 607 = .ok (.iconst 0, 1) := by decide +kernel
theorem dL_law_608 : decode cL_law 608 = .ok (.ireturn, 1) := by decide +kernel
theorem dL_law_609 : decode cL_law 609 = .ok (.aload_n 1, 1) := by decide +kernel
theorem dL_law_610 : decode cL_law 610 = .ok (.aload_n 0, 1) := by decide +kernel
theorem dL_law_611 : decode cL_law 611 = .ok (.iload_n 3, 1) := by decide +kernel
theorem dL_law_612 : decode cL_law 612 = .ok (.iconst 1, 1) := by decide +kernel
theorem dL_law_613 : decode cL_law 613 = .ok (.iadd, 1) := by decide +kernel
theorem dL_law_614 : decode cL_law 614 = .ok (.iaload, 1) := by decide +kernel
theorem dL_law_615 : decode cL_law 615 = .ok (.aload_n 0, 1) := by decide +kernel
theorem dL_law_616 : decode cL_law 616 = .ok (.iload_n 3, 1) := by decide +kernel
theorem dL_law_617 : decode cL_law 617 = .ok (.iconst 2, 1) := by decide +kernel
theorem dL_law_618 : decode cL_law 618 = .ok (.iadd, 1) := by decide +kernel
theorem dL_law_619 : decode cL_law 619 = .ok (.iaload, 1) := by decide +kernel
theorem dL_law_620 : decode cL_law 620 = .ok (.invokevirtual 89, 3) := by decide +kernel
theorem dL_law_623 : decode cL_law 623 = .ok (.aload_n 2, 1) := by decide +kernel
theorem dL_law_624 : decode cL_law 624 = .ok (.aload_n 0, 1) := by decide +kernel
theorem dL_law_625 : decode cL_law 625 = .ok (.iload_n 3, 1) := by decide +kernel
theorem dL_law_626 : decode cL_law 626 = .ok (.iconst 1, 1) := by decide +kernel
theorem dL_law_627 : decode cL_law 627 = .ok (.iadd, 1) := by decide +kernel
theorem dL_law_628 : decode cL_law 628 = .ok (.iaload, 1) := by decide +kernel
theorem dL_law_629 : decode cL_law 629 = .ok (.aload_n 0, 1) := by decide +kernel
theorem dL_law_630 : decode cL_law 630 = .ok (.iload_n 3, 1) := by decide +kernel
theorem dL_law_631 : decode cL_law 631 = .ok (.iconst 2, 1) := by decide +kernel
theorem dL_law_632 : decode cL_law 632 = .ok (.iadd, 1) := by decide +kernel
theorem dL_law_633 : decode cL_law 633 = .ok (.iaload, 1) := by decide +kernel
theorem dL_law_634 : decode cL_law 634 = .ok (.invokevirtual 92, 3) := by decide +kernel
theorem dL_law_637 : decode cL_law 637 = .ok (.if_icmp .eq 51, 3) := by decide +kernel
theorem dL_law_640 : decode cL_law 640 = .ok (.iconst 0, 1) := by decide +kernel
theorem dL_law_641 : decode cL_law 641 = .ok (.ireturn, 1) := by decide +kernel
theorem dL_law_642 : decode cL_law 642 = .ok (.aload_n 1, 1) := by decide +kernel
theorem dL_law_643 : decode cL_law 643 = .ok (.aload_n 0, 1) := by decide +kernel
theorem dL_law_644 : decode cL_law 644 = .ok (.iload_n 3, 1) := by decide +kernel
theorem dL_law_645 : decode cL_law 645 = .ok (.iconst 1, 1) := by decide +kernel
theorem dL_law_646 : decode cL_law 646 = .ok (.iadd, 1) := by decide +kernel
theorem dL_law_647 : decode cL_law 647 = .ok (.iaload, 1) := by decide +kernel
theorem dL_law_648 : decode cL_law 648 = .ok (.invokevirtual 93, 3) := by decide +kernel
theorem dL_law_651 : decode cL_law 651 = .ok (.aload_n 2, 1) := by decide +kernel
theorem dL_law_652 : decode cL_law 652 = .ok (.aload_n 0, 1) := by decide +kernel
theorem dL_law_653 : decode cL_law 653 = .ok (.iload_n 3, 1) := by decide +kernel
theorem dL_law_654 : decode cL_law 654 = .ok (.iconst 1, 1) := by decide +kernel
theorem dL_law_655 : decode cL_law 655 = .ok (.iadd, 1) := by decide +kernel
theorem dL_law_656 : decode cL_law 656 = .ok (.iaload, 1) := by decide +kernel
theorem dL_law_657 : decode cL_law 657 = .ok (.invokevirtual 96, 3) := by decide +kernel
theorem dL_law_660 : decode cL_law 660 = .ok (.if_icmp .eq 28, 3) := by decide +kernel
theorem dL_law_663 : decode cL_law 663 = .ok (.iconst 0, 1) := by decide +kernel
theorem dL_law_664 : decode cL_law 664 = .ok (.ireturn, 1) := by decide +kernel
theorem dL_law_665 : decode cL_law 665 = .ok (.aload_n 1, 1) := by decide +kernel
theorem dL_law_666 : decode cL_law 666 = .ok (.aload_n 0, 1) := by decide +kernel
theorem dL_law_667 : decode cL_law 667 = .ok (.iload_n 3, 1) := by decide +kernel
theorem dL_law_668 : decode cL_law 668 = .ok (.iconst 1, 1) := by decide +kernel
theorem dL_law_669 : decode cL_law 669 = .ok (.iadd, 1) := by decide +kernel
theorem dL_law_670 : decode cL_law 670 = .ok (.iaload, 1) := by decide +kernel
theorem dL_law_671 : decode cL_law 671 = .ok (.invokevirtual 97, 3) := by decide +kernel
theorem dL_law_674 : decode cL_law 674 = .ok (.aload_n 2, 1) := by decide +kernel
theorem dL_law_675 : decode cL_law 675 = .ok (.aload_n 0, 1) := by decide +kernel
theorem dL_law_676 : decode cL_law 676 = .ok (.iload_n 3, 1) := by decide +kernel
theorem dL_law_677 : decode cL_law 677 = .ok (.iconst 1, 1) := by decide +kernel
theorem dL_law_678 : decode cL_law 678 = .ok (.iadd, 1) := by decide +kernel
theorem dL_law_679 : decode cL_law 679 = .ok (.iaload, 1) := by decide +kernel
theorem dL_law_680 : decode cL_law 680 = .ok (.invokevirtual 100, 3) := by decide +kernel
theorem dL_law_683 : decode cL_law 683 = .ok (.if_icmp .eq 5, 3) := by decide +kernel
theorem dL_law_686 : decode cL_law 686 = .ok (.iconst 0, 1) := by decide +kernel
theorem dL_law_687 : decode cL_law 687 = .ok (.ireturn, 1) := by decide +kernel
theorem dL_law_688 : decode cL_law 688 = .ok (.iinc 3 5, 3) := by decide +kernel
theorem dL_law_691 : decode cL_law 691 = .ok (.goto (-663), 3) := by decide +kernel
theorem dL_law_694 : decode cL_law 694 = .ok (.iconst 1, 1) := by decide +kernel
theorem dL_law_695 : decode cL_law 695 = .ok (.ireturn, 1) := by decide +kernel
end
section
/-! the heap of values: what the class, the reference and the lists hold, as a function; and what it says of the machine's heap -/
abbrev AE : Type := (Nat × (Nat → Int32)) ⊕ (Nat × (Nat → Int32)) ⊕ (Nat × (Nat → Option Nat)) ⊕ (Nat × (Nat → Int32) × (Nat → Option Nat))
abbrev Hp : Type := Nat × (Nat → Option AE)
abbrev GG : Type := (Nat × Nat × Nat) × va_G × ClassId × ClassId × ClassId
abbrev eI (n : Nat) (f : Nat → Int32) : AE := .inl (n, f)
abbrev eZ (n : Nat) (f : Nat → Int32) : AE := .inr (.inl (n, f))
abbrev eR (n : Nat) (f : Nat → Option Nat) : AE := .inr (.inr (.inl (n, f)))
abbrev eO (ci : Nat) (I : Nat → Int32) (F : Nat → Option Nat) : AE := .inr (.inr (.inr (ci, I, F)))
def tyC (ci : Nat) : Nat → FieldType := match ci with
  | 0 => tyJx4a65c
  | 1 => tyX0
  | 2 => tyX1
  | 3 => tyX2
  | 4 => tyX3
  | 5 => tyX4
  | 6 => tyX5
  | 7 => tyX6
  | 8 => tyX7
  | _ => tyX8
def isRT (t : FieldType) : Bool := match t with
  | .object _ => true
  | .array _ => true
  | _ => false
def isR (ci k : Nat) : Bool := isRT (tyC ci k)
def fv (ci : Nat) (I : Nat → Int32) (F : Nat → Option Nat) : Nat → Value := fun k => if isR ci k then va_rf (F k) else .int (I k)
def hput (h : Hp) (a : Nat) (e : AE) : Hp := (h.1, va_up h.2 a (some e))
def hnew (h : Hp) (e : AE) : Hp := (h.1 + 1, va_up h.2 h.1 (some e))
def tysG (G : GG) : List (ClassId × FieldType) := [(G.2.2.1, .int), (G.2.2.2.1, .boolean), (G.2.2.2.2, .object "java/lang/Object")]
def KK (G : GG) (U : State) : Prop := va_K G.2.1 vwCl (tysG G) U
def AA (G : GG) : Nat → Prop := fun q => G.1.1 ≤ q
def SZ (G : GG) (U : State) (H : Heap) : Prop := va_Z "java/util/ArrayList" "DEFAULTCAPACITY_EMPTY_ELEMENTDATA" "[Ljava/lang/Object;" (.ref G.1.2.1) (AA G) U H
def rAt (G : GG) (a : Nat) (e : AE) (H : Heap) : Prop := match e with
  | .inl x => H[a]? = some (vp_cell G.2.2.1 (x.1, .inl x.2))
  | .inr (.inl x) => H[a]? = some (vp_cell G.2.2.2.1 (x.1, .inl x.2))
  | .inr (.inr (.inl x)) => H[a]? = some (vp_cell G.2.2.2.2 (x.1, .inr (.inr (.inr (.inr x.2)))))
  | .inr (.inr (.inr x)) => ∃ r : vw_C, vwCl[x.1]? = some r ∧ t_OB a (G.2.1.1 x.1) r.2.2 (G.2.1.2 x.1) H (fv x.1 x.2.1 x.2.2)
def wOk (G : GG) (a : Nat) (e : AE) : Prop := G.1.1 ≤ a ∨ ∃ f, e = eR 0 f
def Rep (G : GG) (h : Hp) (H : Heap) : Prop := H.size = h.1 ∧ G.1.1 ≤ h.1 ∧ ∀ (a : Nat) (e : AE), h.2 a = some e → rAt G a e H ∧ wOk G a e
theorem rAt.kept {G : GG} {a : Nat} {e : AE} {H H1 : Heap} (h : rAt G a e H) (hq : H1[a]? = H[a]?) : rAt G a e H1 := by
  rcases e with x | x | x | x
  · exact hq.trans h
  · exact hq.trans h
  · exact hq.trans h
  · obtain ⟨r, h1, h2⟩ := h
    exact ⟨r, h1, h2.kept hq⟩
theorem rAt.lt {G : GG} {a : Nat} {e : AE} {H : Heap} (h : rAt G a e H) : a < H.size := by
  rcases e with x | x | x | x
  · exact (Array.getElem?_eq_some_iff.mp h).1
  · exact (Array.getElem?_eq_some_iff.mp h).1
  · exact (Array.getElem?_eq_some_iff.mp h).1
  · obtain ⟨r, h1, cell, h2, -⟩ := h
    exact (Array.getElem?_eq_some_iff.mp h2).1
theorem Rep.put {G : GG} {h : Hp} {H H1 : Heap} {a : Nat} {e : AE} (hR : Rep G h H) (hw : G.1.1 ≤ a) (hz : H1.size = H.size) (oq : ∀ q : Nat, q ≠ a → H1[q]? = H[q]?) (ha : rAt G a e H1) : Rep G (hput h a e) H1 := by
  obtain ⟨h1, h2, h3⟩ := hR
  refine ⟨hz.trans h1, h2, fun b e' hb => ?_⟩
  by_cases hq : b = a
  · subst hq
    simp only [hput, va_up, if_true, Option.some.injEq] at hb
    subst hb
    exact ⟨ha, Or.inl hw⟩
  · simp only [hput, va_up, if_neg hq] at hb
    exact ⟨(h3 b e' hb).1.kept (oq b hq), (h3 b e' hb).2⟩
theorem Rep.new {G : GG} {h : Hp} {H H1 : Heap} {e : AE} (hR : Rep G h H) (hz : H1.size = H.size + 1) (oq : ∀ q : Nat, q < H.size → H1[q]? = H[q]?) (ha : rAt G H.size e H1) : Rep G (hnew h e) H1 := by
  obtain ⟨h1, h2, h3⟩ := hR
  refine ⟨by rw [hz, h1]; rfl, Nat.le_succ_of_le h2, fun b e' hb => ?_⟩
  by_cases hq : b = h.1
  · subst hq
    simp only [hnew, va_up, if_true, Option.some.injEq] at hb
    subst hb
    rw [h1] at ha
    exact ⟨ha, Or.inl h2⟩
  · simp only [hnew, va_up, if_neg hq] at hb
    exact ⟨(h3 b e' hb).1.kept (oq b (h3 b e' hb).1.lt), (h3 b e' hb).2⟩
theorem wOk.I {G : GG} {a n : Nat} {f : Nat → Int32} (h : wOk G a (eI n f)) : G.1.1 ≤ a := by
  rcases h with h | ⟨f, h⟩
  · exact h
  · cases h
theorem wOk.Z {G : GG} {a n : Nat} {f : Nat → Int32} (h : wOk G a (eZ n f)) : G.1.1 ≤ a := by
  rcases h with h | ⟨f, h⟩
  · exact h
  · cases h
theorem wOk.R {G : GG} {a n : Nat} {f : Nat → Option Nat} (h : wOk G a (eR n f)) (hn : 0 < n) : G.1.1 ≤ a := by
  rcases h with h | ⟨f, h⟩
  · exact h
  · cases h
    exact absurd hn (Nat.lt_irrefl 0)
theorem wOk.O {G : GG} {a ci : Nat} {I : Nat → Int32} {F : Nat → Option Nat} (h : wOk G a (eO ci I F)) : G.1.1 ≤ a := by
  rcases h with h | ⟨f, h⟩
  · exact h
  · cases h
theorem fv_upd {ci k : Nat} (hk : isR ci k = false) (I : Nat → Int32) (F : Nat → Option Nat) (x : Int32) (j : Nat) : updV (fv ci I F) k (.int x) j = fv ci (upd I k x) F j := by
  by_cases hj : j = k
  · subst hj
    simp [updV, fv, upd, hk]
  · simp [updV, fv, upd, hj]
theorem fv_updR {ci k : Nat} (hk : isR ci k = true) (I : Nat → Int32) (F : Nat → Option Nat) (x : Option Nat) (j : Nat) : updV (fv ci I F) k (va_rf x) j = fv ci I (va_up F k x) j := by
  by_cases hj : j = k
  · subst hj
    simp [updV, fv, va_up, hk]
  · simp [updV, fv, va_up, hj]
/-! the operations: each says what it needs of the heap; what isn't so ends in none -/
section OPS
variable {α : Type}
def obj (h : Hp) (r : Option Nat) (ci : Nat) (K : Nat → (Nat → Int32) → (Nat → Option Nat) → Option α) : Option α := match r with
  | none => none
  | some a => match h.2 a with
    | some (.inr (.inr (.inr x))) => if x.1 = ci then K a x.2.1 x.2.2 else none
    | _ => none
def arI (h : Hp) (r : Option Nat) (K : Nat → Nat → (Nat → Int32) → Option α) : Option α := match r with
  | none => none
  | some a => match h.2 a with
    | some (.inl x) => K a x.1 x.2
    | _ => none
def arZ (h : Hp) (r : Option Nat) (K : Nat → Nat → (Nat → Int32) → Option α) : Option α := match r with
  | none => none
  | some a => match h.2 a with
    | some (.inr (.inl x)) => K a x.1 x.2
    | _ => none
def arR (h : Hp) (r : Option Nat) (K : Nat → Nat → (Nat → Option Nat) → Option α) : Option α := match r with
  | none => none
  | some a => match h.2 a with
    | some (.inr (.inr (.inl x))) => K a x.1 x.2
    | _ => none
def gI (h : Hp) (r : Option Nat) (ci k : Nat) (K : Int32 → Option α) : Option α := obj h r ci (fun _ I _ => K (I k))
def gR (h : Hp) (r : Option Nat) (ci k : Nat) (K : Option Nat → Option α) : Option α := obj h r ci (fun _ _ F => K (F k))
def pI (h : Hp) (r : Option Nat) (ci k : Nat) (x : Int32) (K : Hp → Option α) : Option α := obj h r ci (fun a I F => K (hput h a (eO ci (upd I k x) F)))
def pZ (h : Hp) (r : Option Nat) (ci k : Nat) (x : Int32) (K : Hp → Option α) : Option α := obj h r ci (fun a I F => if x = 0 ∨ x = 1 then K (hput h a (eO ci (upd I k x) F)) else none)
def pR (h : Hp) (r : Option Nat) (ci k : Nat) (x : Option Nat) (K : Hp → Option α) : Option α := obj h r ci (fun a I F => K (hput h a (eO ci I (va_up F k x))))
def rcv (h : Hp) (r : Option Nat) (ci : Nat) (K : Nat → Option α) : Option α := obj h r ci (fun a _ _ => K a)
def ldI (h : Hp) (r : Option Nat) (i : Int32) (K : Int32 → Option α) : Option α := arI h r (fun _ n f => if 0 ≤ i.toInt ∧ i.toInt < n then K (f i.toNatClampNeg) else none)
def ldZ (h : Hp) (r : Option Nat) (i : Int32) (K : Int32 → Option α) : Option α := arZ h r (fun _ n f => if 0 ≤ i.toInt ∧ i.toInt < n then K (f i.toNatClampNeg) else none)
def ldR (h : Hp) (r : Option Nat) (i : Int32) (K : Option Nat → Option α) : Option α := arR h r (fun _ n f => if 0 ≤ i.toInt ∧ i.toInt < n then K (f i.toNatClampNeg) else none)
def stI (h : Hp) (r : Option Nat) (i x : Int32) (K : Hp → Option α) : Option α := arI h r (fun a n f => if 0 ≤ i.toInt ∧ i.toInt < n then K (hput h a (eI n (upd f i.toNatClampNeg x))) else none)
def stZ (h : Hp) (r : Option Nat) (i x : Int32) (K : Hp → Option α) : Option α := arZ h r (fun a n f => if (0 ≤ i.toInt ∧ i.toInt < n) ∧ (x = 0 ∨ x = 1) then K (hput h a (eZ n (upd f i.toNatClampNeg x))) else none)
def alI (h : Hp) (r : Option Nat) (K : Int32 → Option α) : Option α := arI h r (fun _ n _ => K (Int32.ofNat n))
def alR (h : Hp) (r : Option Nat) (K : Int32 → Option α) : Option α := arR h r (fun _ n _ => K (Int32.ofNat n))
def nwO (h : Hp) (ci : Nat) (K : Nat → Hp → Option α) : Option α := K h.1 (hnew h (eO ci (fun _ => 0) (fun _ => none)))
def nwI (h : Hp) (n : Nat) (K : Nat → Hp → Option α) : Option α := K h.1 (hnew h (eI n (fun _ => 0)))
def nwZ (h : Hp) (n : Nat) (K : Nat → Hp → Option α) : Option α := K h.1 (hnew h (eZ n (fun _ => 0)))
def ckc (h : Hp) (r : Option Nat) (ci : Nat) (K : Option α) : Option α := match r with
  | none => K
  | some a => obj h (some a) ci (fun _ _ _ => K)
def bd {β : Type} (o : Option (β × Hp)) (K : β → Hp → Option α) : Option α := match o with
  | none => none
  | some x => K x.1 x.2
def dv (y : Int32) (K : Option α) : Option α := if y = 0 then none else K
def rtZ (x : Int32) (h : Hp) : Option (Int32 × Hp) := if x = 0 ∨ x = 1 then some (x, h) else none
def rtI (x : Int32) (h : Hp) : Option (Int32 × Hp) := some (x, h)
def rtR (x : Option Nat) (h : Hp) : Option (Option Nat × Hp) := some (x, h)
def rtV (h : Hp) : Option (Unit × Hp) := some ((), h)
/-- a loop: so many turns at most -/
def lp {S : Type} (B : (S → Option α) → S → Option α) : Nat → S → Option α
  | 0, _ => none
  | n + 1, s => B (lp B n) s
theorem obj_inv {h : Hp} {r : Option Nat} {ci : Nat} {K : Nat → (Nat → Int32) → (Nat → Option Nat) → Option α} {y : α} (hq : obj h r ci K = some y) : ∃ a I F, r = some a ∧ h.2 a = some (eO ci I F) ∧ K a I F = some y := by
  unfold obj at hq
  split at hq
  · cases hq
  · rename_i a
    split at hq
    · rename_i x hx
      by_cases hc : x.1 = ci
      · rw [if_pos hc] at hq
        refine ⟨a, x.2.1, x.2.2, rfl, ?_, hq⟩
        rw [hx, ← hc]
      · rw [if_neg hc] at hq
        cases hq
    · cases hq
theorem arI_inv {h : Hp} {r : Option Nat} {K : Nat → Nat → (Nat → Int32) → Option α} {y : α} (hq : arI h r K = some y) : ∃ a n f, r = some a ∧ h.2 a = some (eI n f) ∧ K a n f = some y := by
  unfold arI at hq
  split at hq
  · cases hq
  · rename_i a
    split at hq
    · rename_i x hx
      exact ⟨a, x.1, x.2, rfl, hx, hq⟩
    · cases hq
theorem arZ_inv {h : Hp} {r : Option Nat} {K : Nat → Nat → (Nat → Int32) → Option α} {y : α} (hq : arZ h r K = some y) : ∃ a n f, r = some a ∧ h.2 a = some (eZ n f) ∧ K a n f = some y := by
  unfold arZ at hq
  split at hq
  · cases hq
  · rename_i a
    split at hq
    · rename_i x hx
      exact ⟨a, x.1, x.2, rfl, hx, hq⟩
    · cases hq
theorem arR_inv {h : Hp} {r : Option Nat} {K : Nat → Nat → (Nat → Option Nat) → Option α} {y : α} (hq : arR h r K = some y) : ∃ a n f, r = some a ∧ h.2 a = some (eR n f) ∧ K a n f = some y := by
  unfold arR at hq
  split at hq
  · cases hq
  · rename_i a
    split at hq
    · rename_i x hx
      exact ⟨a, x.1, x.2, rfl, hx, hq⟩
    · cases hq
theorem ite_inv {c : Prop} [Decidable c] {A : Option α} {y : α} (hq : (if c then A else none) = some y) : c ∧ A = some y := by
  by_cases h : c
  · rw [if_pos h] at hq
    exact ⟨h, hq⟩
  · rw [if_neg h] at hq
    cases hq
theorem ite_t {c : Prop} [Decidable c] {A B : Option α} {y : α} (hq : (if c then A else B) = some y) (h : c) : A = some y := by rwa [if_pos h] at hq
theorem ite_f {c : Prop} [Decidable c] {A B : Option α} {y : α} (hq : (if c then A else B) = some y) (h : ¬ c) : B = some y := by rwa [if_neg h] at hq
theorem bd_inv {β : Type} {o : Option (β × Hp)} {K : β → Hp → Option α} {y : α} (hq : bd o K = some y) : ∃ r h, o = some (r, h) ∧ K r h = some y := by
  unfold bd at hq
  split at hq
  · cases hq
  · rename_i x
    exact ⟨x.1, x.2, rfl, hq⟩
theorem vp_in_of2 {i : Int32} {n : Nat} (h : 0 ≤ i.toInt ∧ i.toInt < n) : vp_in i n := vp_in_iff.mpr h
theorem lp_ind {S : Type} {B : (S → Option α) → S → Option α} {y : α} {P : S → Prop} (hs : ∀ k : S → Option α, (∀ s, k s = some y → P s) → ∀ s, B k s = some y → P s) : ∀ (n : Nat) (s : S), lp B n s = some y → P s
  | 0, s, h => by cases h
  | n + 1, s, h => hs (lp B n) (lp_ind hs n) s h
end OPS
end
section
/-! the machine's steps over the heap of values -/
/-- the words that hold in every state of the run -/
def GT : List Cond := lw_tbl.filter goodWord
theorem tbl_good : GoodIn GT GT := fun w hw => ⟨hw, good_of_word (List.mem_filter.mp hw).2⟩
theorem tbl_code {y : MethodName} {bytes : ByteArray} {maxL : Nat} {ret : Option FieldType} (h : Cond.code y bytes maxL ret ∈ GT) : GoodIn GT (Cond.code y bytes maxL ret :: GT) := by
  intro w hw
  rcases List.mem_cons.mp hw with e | e
  · rw [e]; exact tbl_good _ h
  · exact tbl_good w e
def FL (own : String) (idx ci k : Nat) : Prop := ∃ (C : String) (T : u_T) (N : Nat) (ref : String), vwCl[ci]? = some (C, T, N) ∧ k < N ∧ Cond.fieldLink own idx ref (T k).2.1 (T k).2.2.1 ∈ GT ∧ (ref = (T k).1 ∨ Cond.sameField ref (T k).1 (T k).2.1 (T k).2.2.1 ∈ GT)
def VL (own : String) (idx ci : Nat) (y : MethodName) (bytes : ByteArray) (maxL : Nat) (ret : Option FieldType) (n : Nat) : Prop :=
  (∃ (T : u_T) (N : Nat), vwCl[ci]? = some (y.cls, T, N)) ∧ (Cond.methodLink own idx y ∈ GT ∧ Cond.instanceMethod y ∈ GT ∧ Cond.selects y.cls y y ∈ GT ∧ Cond.initialized y.cls ∈ GT ∧ Cond.code y bytes maxL ret ∈ GT) ∧ y.cls ≠ "java/lang/invoke/MethodHandle" ∧ y.cls ≠ "java/lang/invoke/VarHandle" ∧ (parseMethodDescriptor y.desc).map (fun d => d.parameters.length) = some n
def SL (own : String) (idx : Nat) (y : MethodName) (bytes : ByteArray) (maxL : Nat) (ret : Option FieldType) (n : Nat) : Prop :=
  (Cond.methodLink own idx y ∈ GT ∧ Cond.static y ∈ GT ∧ Cond.initialized y.cls ∈ GT ∧ Cond.code y bytes maxL ret ∈ GT) ∧ y.cls ≠ "java/lang/invoke/MethodHandle" ∧ y.cls ≠ "java/lang/invoke/VarHandle" ∧ (parseMethodDescriptor y.desc).map (fun d => d.parameters.length) = some n
def IL (own : String) (idx : Nat) (y : MethodName) (bytes : ByteArray) (maxL : Nat) (n : Nat) : Prop :=
  (Cond.methodLink own idx y ∈ GT ∧ Cond.instanceMethod y ∈ GT ∧ Cond.initialized y.cls ∈ GT ∧ Cond.code y bytes maxL none ∈ GT) ∧ y.name = "<init>" ∧ y.cls ≠ "java/lang/invoke/MethodHandle" ∧ y.cls ≠ "java/lang/invoke/VarHandle" ∧ (parseMethodDescriptor y.desc).map (fun d => d.parameters.length) = some n
def NL (own : String) (idx : Nat) (C : String) (ci N : Nat) : Prop := (∃ T : u_T, vwCl[ci]? = some (C, T, N)) ∧ Cond.classLink own idx C ∈ GT ∧ Cond.instantiable C N ∈ GT ∧ Cond.initialized C ∈ GT
/-- of each class that the heap holds: its words, its types, its names -/
theorem cls_ok : ∀ (ci : Nat) (C : String) (T : u_T) (N : Nat), vwCl[ci]? = some (C, T, N) → (∀ w ∈ u_ws C T N, w ∈ GT) ∧ (∀ k, k < N → parseFieldDescriptor (T k).2.2.1 = some (tyC ci k)) ∧ (∀ a, a < N → ∀ b, b < N → a ≠ b → (T a).2.1 ≠ (T b).2.1)
  | 0, _, _, _, h => by cases h; exact ⟨by decide +kernel, tyJx4a65c_ok, nmJx4a65c⟩
  | 1, _, _, _, h => by cases h; exact ⟨by decide +kernel, tyX0_ok, nmX0⟩
  | 2, _, _, _, h => by cases h; exact ⟨by decide +kernel, tyX1_ok, nmX1⟩
  | 3, _, _, _, h => by cases h; exact ⟨by decide +kernel, tyX2_ok, nmX2⟩
  | 4, _, _, _, h => by cases h; exact ⟨by decide +kernel, tyX3_ok, nmX3⟩
  | 5, _, _, _, h => by cases h; exact ⟨by decide +kernel, tyX4_ok, nmX4⟩
  | 6, _, _, _, h => by cases h; exact ⟨by decide +kernel, tyX5_ok, nmX5⟩
  | 7, _, _, _, h => by cases h; exact ⟨by decide +kernel, tyX6_ok, nmX6⟩
  | 8, _, _, _, h => by cases h; exact ⟨by decide +kernel, tyX7_ok, nmX7⟩
  | 9, _, _, _, h => by cases h; exact ⟨by decide +kernel, tyX8_ok, nmX8⟩
  | n + 10, _, _, _, h => by cases h
theorem isR_ok {ci k : Nat} (h : isR ci k = true) (r : Option Nat) : narrow (tyC ci k) (va_rf r) = va_rf r ∧ fits (tyC ci k) (va_rf r) = true := by
  unfold isR at h
  cases ht : tyC ci k <;> rw [ht] at h <;> first | (cases h; done) | (cases r <;> exact ⟨rfl, rfl⟩)
theorem tyC_dv (ci k : Nat) : defaultValue (tyC ci k) = fv ci (fun _ => 0) (fun _ => none) k := by
  unfold fv isR tyC
  split
  · unfold tyJx4a65c; split <;> rfl
  · unfold tyX0; split <;> rfl
  · unfold tyX1; split <;> rfl
  · unfold tyX2; split <;> rfl
  · unfold tyX3; split <;> rfl
  · unfold tyX4; split <;> rfl
  · unfold tyX5; split <;> rfl
  · unfold tyX6; split <;> rfl
  · unfold tyX7; split <;> rfl
  · unfold tyX8; split <;> rfl
/-- the words that are no word of GT: castable, arrays over Object, the nest mate's constructor, getClass; the class object of Object[] is at mi -/
def NN (mi : Nat) (U : State) : Prop := va_Nw (.castable "FreightPaths$Bid" "java/lang/Object") U ∧ va_AO "java/lang/Object" U ∧ va_Nw (.methodLinkNest "FreightPaths" 25 yX1_init "FreightPaths") U ∧ va_Dc U ∧ va_Mi "[Ljava/lang/Object;" mi U
theorem NN.moved {mi : Nat} {u U : State} (hW : u.WarmedH U.vm) (h : NN mi u) : NN mi U := ⟨va_Nw.warmC hW h.1, h.2.1.moved hW.alike, va_Nw.warmM hW h.2.2.1, h.2.2.2.1.moved hW.alike, h.2.2.2.2.moved hW.alike⟩
theorem NN.same {mi : Nat} {u U : State} (hv : u.vm = U.vm) (h : NN mi u) : NN mi U := ⟨va_Nw.same rfl hv h.1, h.2.1.moved (by rw [hv]; exact Vm.Alike.refl _), va_Nw.same rfl hv h.2.2.1, h.2.2.2.1.moved (by rw [hv]; exact Vm.Alike.refl _), h.2.2.2.2.moved (by rw [hv]; exact Vm.Alike.refl _)⟩
def ZZ (p : Program) (s : State) (m : MethodId) (args : Array Value) (c : Code) (cc : ByteArray) (own : String) (nL : Nat) (G : GG) : Prop :=
  p.tables.exec = Jvm.exec ∧ c.code = cc ∧ c.maxLocals = nL ∧ s.vm.findClass own = some m.cls ∧ (∀ w ∈ GT, w.before args s = true) ∧ KK G s ∧ SZ G s s.heap ∧ NN G.1.2.2 s ∧ G.1.1 ≤ s.heap.size
def Cn (G : GG) (h : Hp) (U : State) : Prop := Rep G h U.heap ∧ KK G U ∧ SZ G U U.heap ∧ NN G.1.2.2 U
def Qx (G : GG) (v : Option Value) (h : Hp) : Array Value → State → Outcome → State → Prop := fun _ st oc t => (oc = .returned v ∧ Rep G h t.heap) ∧ va_F (AA G) st t
theorem Cn_blind (G : GG) (h : Hp) (av : List Value) : FrameBlind (va_Pc av (Cn G h)) := by
  intro a U g mk q
  obtain ⟨q0, q1, q2, q3, q4⟩ := q
  exact ⟨q0, q1, va_K.moved (u := U) (U := U.calling g mk a) (Vm.Alike.refl U.vm) q2, va_Z.moved (u := U) (U := U.calling g mk a) (Vm.Alike.refl U.vm) q3, NN.same (u := U) (U := U.calling g mk a) rfl q4⟩
section RW
variable {p : Program} {l : Launch} {e : Env} {R : Room} {s : State} {m : MethodId} {args : Array Value} {below : List Frame} {meth : Method} {c : Code} {H : Heap} {locs : List Loc} {cells slots : Nat} {Q : State → Prop}
variable {cc : ByteArray} {pc nL : Nat} {ls : Array Slot} {rest : List Value} {own : String} {G : GG} {h : Hp} {α : Type} {y : α}
theorem xg_raw (Z : ZZ p s m args c cc own nL G) (hR : Rep G h H) {ci k idx a : Nat} {I : Nat → Int32} {F : Nat → Option Nat} (he : h.2 a = some (eO ci I F)) (hf : FL own idx ci k) (hd : decode cc pc = .ok (.getfield idx, 3))
    (kk : W p l e R s m args below meth c H locs cells slots Q (F0 m (pc + 3) ls (fv ci I F k :: rest))) : W p l e R s m args below meth c H locs cells slots Q (F0 m pc ls (.ref a :: rest)) := by
  obtain ⟨hx, hb, hml, hown, hts, hK, -, -, -⟩ := Z
  obtain ⟨C, T, N, ref, hc, hk, hl, hs⟩ := hf
  obtain ⟨r, h1, cell, q1, q2, q3, q4⟩ := (hR.2.2 a _ he).1
  have hr : r = (C, T, N) := Option.some.inj (h1.symm.trans hc)
  subst hr
  obtain ⟨hS, hfc, kC, hkC, hkind⟩ := hK.1 ci _ hc
  obtain ⟨cf, kf, fi, f, hi, hsl⟩ := hS k hk
  have hsame : ∀ x, s.fieldFound? (T k).1 (T k).2.1 (T k).2.2.1 = some x → s.fieldFound? ref (T k).2.1 (T k).2.2.1 = some x := by
    rcases hs with hs | hs
    · rw [hs]; exact fun _ z => z
    · exact u_same (hts _ hs)
  refine W.getf hx hb hown (hts _ hl) (hsame _ hi) (u_facts hfc hkC (u_lays hts (cls_ok ci C T N hc).1 hk) hi).1 q1 (by rw [q3]; exact fun h => by cases h) (v := fv ci I F k) ?_ rfl rfl hd kk
  rw [hsl, q4 k hk]
theorem xgI (Z : ZZ p s m args c cc own nL G) (hR : Rep G h H) {ci k idx : Nat} {r : Option Nat} {K : Int32 → Option α} (hq : gI h r ci k K = some y) (hf : FL own idx ci k) (hi : isR ci k = false) (hd : decode cc pc = .ok (.getfield idx, 3))
    (kk : ∀ x : Int32, K x = some y → W p l e R s m args below meth c H locs cells slots Q (F0 m (pc + 3) ls (.int x :: rest))) : W p l e R s m args below meth c H locs cells slots Q (F0 m pc ls (va_rf r :: rest)) := by
  obtain ⟨a, I, F, rfl, he, hq⟩ := obj_inv hq
  refine xg_raw Z hR he hf hd ?_
  rw [show fv ci I F k = .int (I k) by simp [fv, hi]]
  exact kk _ hq
theorem xgR (Z : ZZ p s m args c cc own nL G) (hR : Rep G h H) {ci k idx : Nat} {r : Option Nat} {K : Option Nat → Option α} (hq : gR h r ci k K = some y) (hf : FL own idx ci k) (hi : isR ci k = true) (hd : decode cc pc = .ok (.getfield idx, 3))
    (kk : ∀ x : Option Nat, K x = some y → W p l e R s m args below meth c H locs cells slots Q (F0 m (pc + 3) ls (va_rf x :: rest))) : W p l e R s m args below meth c H locs cells slots Q (F0 m pc ls (va_rf r :: rest)) := by
  obtain ⟨a, I, F, rfl, he, hq⟩ := obj_inv hq
  refine xg_raw Z hR he hf hd ?_
  rw [show fv ci I F k = va_rf (F k) by simp [fv, hi]]
  exact kk _ hq
theorem xp_raw (Z : ZZ p s m args c cc own nL G) (hR : Rep G h H) (hS : va_S (AA G) s.heap H locs) {ci k idx a : Nat} {I I' : Nat → Int32} {F F' : Nat → Option Nat} (he : h.2 a = some (eO ci I F)) (hf : FL own idx ci k) (hfin : ∀ (C : String) (T : u_T) (N : Nat), vwCl[ci]? = some (C, T, N) → (T k).2.2.2 = false ∨ ((T k).2.2.2 = true ∧ (T k).1 = own ∧ meth.name = "<init>")) (hd : decode cc pc = .ok (.putfield idx, 3))
    {v : Value} (hn : narrow (tyC ci k) v = v) (hfit : fits (tyC ci k) v = true) (hv : ∀ j, updV (fv ci I F) k v j = fv ci I' F' j)
    (kk : ∀ (H1 : Heap) (locs1 : List Loc), Rep G (hput h a (eO ci I' F')) H1 → va_S (AA G) s.heap H1 locs1 → W p l e R s m args below meth c H1 locs1 cells slots Q (F0 m (pc + 3) ls rest)) : W p l e R s m args below meth c H locs cells slots Q (F0 m pc ls (v :: .ref a :: rest)) := by
  obtain ⟨hx, hb, hml, hown, hts, hK, -, -, -⟩ := Z
  obtain ⟨C, T, N, ref, hc, hk, hl, hs⟩ := hf
  obtain ⟨hin, hty, hnm⟩ := cls_ok ci C T N hc
  have hwo : G.1.1 ≤ a := (hR.2.2 a _ he).2.O
  obtain ⟨r, h1, cell, q1, q2, q3, q4⟩ := (hR.2.2 a _ he).1
  have hr : r = (C, T, N) := Option.some.inj (h1.symm.trans hc)
  subst hr
  have hap := va_apart (own := own) hts hin (tyC ci) hty hnm hK hc
  obtain ⟨hSl, hfc, kC, hkC, hkind⟩ := hK.1 ci _ hc
  obtain ⟨cf, kf, fi, f, hi, hsl⟩ := hSl k hk
  have hsame : ∀ x, s.fieldFound? (T k).1 (T k).2.1 (T k).2.2.1 = some x → s.fieldFound? ref (T k).2.1 (T k).2.2.1 = some x := by
    rcases hs with hs | hs
    · rw [hs]; exact fun _ z => z
    · exact u_same (hts _ hs)
  have hlay := hts _ (hin _ (u_in_lay hk))
  unfold u_lay at hlay
  have hst := (u_facts hfc hkC (u_lays hts hin hk) hi).1
  have fin : ∀ H' : Heap, H'[a]? = some (cell.setSlot f.slot v) → H'.size = H.size → (∀ q : Nat, q ≠ a → H'[q]? = H[q]?) → W p l e R s m args below meth c H' (locs ++ [⟨a, f.slot⟩]) cells slots Q (F0 m (pc + 3) ls rest) := by
    intro H' e1 e2 e3
    rw [hsl] at e1 ⊢
    exact kk H' _ (hR.put hwo e2 e3 ⟨_, hc, t_OB.to (V := updV (fv ci I F) k v) ⟨_, e1, q2, q3, t_set q4 hap hk v⟩ (fun j _ => hv j)⟩) (hS.put e2 e3 hwo)
  rcases hfin C T N hc with hfin | ⟨hfin, hdecl, hin2⟩
  · rw [if_neg (by rw [hfin]; decide)] at hlay
    have h6 := u_store hfc hkC hkind hlay hi (hty k hk) hn hfit
    exact W.putK hx hb (f := f) ⟨hown, hts _ hl, ⟨_, _, _, hsame _ hi⟩, hst⟩ (by rw [q2]; exact h6) q1 q3 (by rw [hsl]; exact k2_hasslot (q4 k hk)) rfl rfl hd fin
  · rw [if_pos hfin] at hlay
    have hcf : m.cls = cf := by
      obtain ⟨_, _, c', _, _, _, -, -, hf', -, -, -, hown2, -⟩ := Cond.laysFinal_spec hlay
      have e1 : c' = cf := by have := hi.symm.trans hf'; simp at this; exact this.1.symm
      rw [hdecl] at hown2
      rw [← e1]; exact Option.some.inj (hown.symm.trans hown2)
    have h6 := u_fits hfc hkC hkind (Or.inr hlay) hi (hty k hk) hn hfit
    exact W.putFinK hx hb hown (hts _ hl) (hsame _ hi) hst hcf hin2 (by rw [q2]; exact h6) q1 q3 (by rw [hsl]; exact k2_hasslot (q4 k hk)) rfl rfl hd fin
def nF (ci k : Nat) : Prop := ∀ (C : String) (T : u_T) (N : Nat), vwCl[ci]? = some (C, T, N) → (T k).2.2.2 = false
def iF (own : String) (ci k : Nat) : Prop := ∀ (C : String) (T : u_T) (N : Nat), vwCl[ci]? = some (C, T, N) → (T k).2.2.2 = true ∧ (T k).1 = own
theorem xpI (Z : ZZ p s m args c cc own nL G) (hR : Rep G h H) (hS : va_S (AA G) s.heap H locs) {ci k idx : Nat} {r : Option Nat} {x : Int32} {K : Hp → Option α} (hq : pI h r ci k x K = some y) (hf : FL own idx ci k) (hi : tyC ci k = .int) (hfin : nF ci k ∨ (iF own ci k ∧ meth.name = "<init>")) (hd : decode cc pc = .ok (.putfield idx, 3))
    (kk : ∀ (h : Hp) (H1 : Heap) (locs1 : List Loc), K h = some y → Rep G h H1 → va_S (AA G) s.heap H1 locs1 → W p l e R s m args below meth c H1 locs1 cells slots Q (F0 m (pc + 3) ls rest)) : W p l e R s m args below meth c H locs cells slots Q (F0 m pc ls (.int x :: va_rf r :: rest)) := by
  obtain ⟨a, I, F, rfl, he, hq⟩ := obj_inv hq
  exact xp_raw Z hR hS he hf (fun C T N hc => hfin.elim (fun z => Or.inl (z C T N hc)) (fun z => Or.inr ⟨(z.1 C T N hc).1, (z.1 C T N hc).2, z.2⟩)) hd (by rw [hi]; rfl) (by rw [hi]; rfl) (fv_upd (by unfold isR; rw [hi]; rfl) I F x) (fun H1 locs1 hR hS => kk _ H1 locs1 hq hR hS)
theorem xpZ (Z : ZZ p s m args c cc own nL G) (hR : Rep G h H) (hS : va_S (AA G) s.heap H locs) {ci k idx : Nat} {r : Option Nat} {x : Int32} {K : Hp → Option α} (hq : pZ h r ci k x K = some y) (hf : FL own idx ci k) (hi : tyC ci k = .boolean) (hfin : nF ci k ∨ (iF own ci k ∧ meth.name = "<init>")) (hd : decode cc pc = .ok (.putfield idx, 3))
    (kk : ∀ (h : Hp) (H1 : Heap) (locs1 : List Loc), K h = some y → Rep G h H1 → va_S (AA G) s.heap H1 locs1 → W p l e R s m args below meth c H1 locs1 cells slots Q (F0 m (pc + 3) ls rest)) : W p l e R s m args below meth c H locs cells slots Q (F0 m pc ls (.int x :: va_rf r :: rest)) := by
  obtain ⟨a, I, F, rfl, he, hq⟩ := obj_inv hq
  obtain ⟨hx, hq⟩ := ite_inv hq
  exact xp_raw Z hR hS he hf (fun C T N hc => hfin.elim (fun z => Or.inl (z C T N hc)) (fun z => Or.inr ⟨(z.1 C T N hc).1, (z.1 C T N hc).2, z.2⟩)) hd (by rw [hi]; rcases hx with rfl | rfl <;> decide) (by rw [hi]; rcases hx with rfl | rfl <;> decide) (fv_upd (by unfold isR; rw [hi]; rfl) I F x) (fun H1 locs1 hR hS => kk _ H1 locs1 hq hR hS)
theorem xpR (Z : ZZ p s m args c cc own nL G) (hR : Rep G h H) (hS : va_S (AA G) s.heap H locs) {ci k idx : Nat} {r x : Option Nat} {K : Hp → Option α} (hq : pR h r ci k x K = some y) (hf : FL own idx ci k) (hi : isR ci k = true) (hfin : nF ci k ∨ (iF own ci k ∧ meth.name = "<init>")) (hd : decode cc pc = .ok (.putfield idx, 3))
    (kk : ∀ (h : Hp) (H1 : Heap) (locs1 : List Loc), K h = some y → Rep G h H1 → va_S (AA G) s.heap H1 locs1 → W p l e R s m args below meth c H1 locs1 cells slots Q (F0 m (pc + 3) ls rest)) : W p l e R s m args below meth c H locs cells slots Q (F0 m pc ls (va_rf x :: va_rf r :: rest)) := by
  obtain ⟨a, I, F, rfl, he, hq⟩ := obj_inv hq
  exact xp_raw Z hR hS he hf (fun C T N hc => hfin.elim (fun z => Or.inl (z C T N hc)) (fun z => Or.inr ⟨(z.1 C T N hc).1, (z.1 C T N hc).2, z.2⟩)) hd (isR_ok hi x).1 (isR_ok hi x).2 (fv_updR hi I F x) (fun H1 locs1 hR hS => kk _ H1 locs1 hq hR hS)
theorem KKi (hK : KK G s) : ArrOfT s G.2.2.1 .int := (hK.2 0 _ rfl).1
theorem KKz (hK : KK G s) : ArrOfT s G.2.2.2.1 .boolean := (hK.2 1 _ rfl).1
theorem KKo (hK : KK G s) : ArrOfT s G.2.2.2.2 (.object "java/lang/Object") := (hK.2 2 _ rfl).1
theorem xaI (Z : ZZ p s m args c cc own nL G) (hR : Rep G h H) {r : Option Nat} {i : Int32} {K : Int32 → Option α} (hq : ldI h r i K = some y) (hd : decode cc pc = .ok (.iaload, 1))
    (kk : ∀ x : Int32, K x = some y → W p l e R s m args below meth c H locs cells slots Q (F0 m (pc + 1) ls (.int x :: rest))) : W p l e R s m args below meth c H locs cells slots Q (F0 m pc ls (.int i :: va_rf r :: rest)) := by
  obtain ⟨hx, hb, hml, hown, hts, hK, -, -, -⟩ := Z
  obtain ⟨a, n, f, rfl, he, hq⟩ := arI_inv hq
  obtain ⟨hin, hq⟩ := ite_inv hq
  have hin := vp_in_of2 hin
  have hlt : i.toNatClampNeg < n := Nat.not_le.mp fun q => hin (Or.inr q)
  exact W.iald (v := .int (f i.toNatClampNeg)) hx hb (hR.2.2 a _ he).1 ((KKi hK) n (fun j => .int (f j))) (fun q => by cases q) (by show ¬ (i < 0 ∨ (arrV _ _ _).slots.size ≤ _); rw [arrV_size]; exact hin) (by show (arrV _ _ _).slots[_]? = _; rw [arrV_read _ _ hlt]) rfl rfl hd (kk _ hq)
theorem xaZ (Z : ZZ p s m args c cc own nL G) (hR : Rep G h H) {r : Option Nat} {i : Int32} {K : Int32 → Option α} (hq : ldZ h r i K = some y) (hd : decode cc pc = .ok (.baload, 1))
    (kk : ∀ x : Int32, K x = some y → W p l e R s m args below meth c H locs cells slots Q (F0 m (pc + 1) ls (.int x :: rest))) : W p l e R s m args below meth c H locs cells slots Q (F0 m pc ls (.int i :: va_rf r :: rest)) := by
  obtain ⟨hx, hb, hml, hown, hts, hK, -, -, -⟩ := Z
  obtain ⟨a, n, f, rfl, he, hq⟩ := arZ_inv hq
  obtain ⟨hin, hq⟩ := ite_inv hq
  have hin := vp_in_of2 hin
  have hlt : i.toNatClampNeg < n := Nat.not_le.mp fun q => hin (Or.inr q)
  exact W.zald (v := .int (f i.toNatClampNeg)) hx hb (hR.2.2 a _ he).1 ((KKz hK) n (fun j => .int (f j))) (fun q => by cases q) (by show ¬ (i < 0 ∨ (arrV _ _ _).slots.size ≤ _); rw [arrV_size]; exact hin) (by show (arrV _ _ _).slots[_]? = _; rw [arrV_read _ _ hlt]) rfl rfl hd (kk _ hq)
theorem xaR (Z : ZZ p s m args c cc own nL G) (hR : Rep G h H) {r : Option Nat} {i : Int32} {K : Option Nat → Option α} (hq : ldR h r i K = some y) (hd : decode cc pc = .ok (.aaload, 1))
    (kk : ∀ x : Option Nat, K x = some y → W p l e R s m args below meth c H locs cells slots Q (F0 m (pc + 1) ls (va_rf x :: rest))) : W p l e R s m args below meth c H locs cells slots Q (F0 m pc ls (.int i :: va_rf r :: rest)) := by
  obtain ⟨hx, hb, hml, hown, hts, hK, -, -, -⟩ := Z
  obtain ⟨a, n, f, rfl, he, hq⟩ := arR_inv hq
  obtain ⟨hin, hq⟩ := ite_inv hq
  have hin := vp_in_of2 hin
  have hlt : i.toNatClampNeg < n := Nat.not_le.mp fun q => hin (Or.inr q)
  exact W.aald (v := va_rf (f i.toNatClampNeg)) (ty := .object "java/lang/Object") hx hb (hR.2.2 a _ he).1 ((KKo hK) n (fun j => va_rf (f j))) rfl (fun q => by cases q) (by show ¬ (i < 0 ∨ (arrV _ _ _).slots.size ≤ _); rw [arrV_size]; exact hin) (by show (arrV _ _ _).slots[_]? = _; rw [arrV_read _ _ hlt]) rfl rfl hd (kk _ hq)
theorem xsI (Z : ZZ p s m args c cc own nL G) (hR : Rep G h H) (hS : va_S (AA G) s.heap H locs) {r : Option Nat} {i x : Int32} {K : Hp → Option α} (hq : stI h r i x K = some y) (hd : decode cc pc = .ok (.iastore, 1))
    (kk : ∀ (h : Hp) (H1 : Heap) (locs1 : List Loc), K h = some y → Rep G h H1 → va_S (AA G) s.heap H1 locs1 → W p l e R s m args below meth c H1 locs1 cells slots Q (F0 m (pc + 1) ls rest)) : W p l e R s m args below meth c H locs cells slots Q (F0 m pc ls (.int x :: .int i :: va_rf r :: rest)) := by
  obtain ⟨hx, hb, hml, hown, hts, hK, -, -, -⟩ := Z
  obtain ⟨a, n, f, rfl, he, hq⟩ := arI_inv hq
  obtain ⟨hin, hq⟩ := ite_inv hq
  have hin := vp_in_of2 hin
  have hwo : G.1.1 ≤ a := (hR.2.2 a _ he).2.I
  refine W.iast hx hb (hR.2.2 a _ he).1 ((KKi hK) n (fun j => .int (f j))) (fun q => by cases q) (by show ¬ (i < 0 ∨ (arrV _ _ _).slots.size ≤ _); rw [arrV_size]; exact hin) rfl rfl hd fun H1 e z oq => ?_
  refine kk _ H1 _ hq (hR.put hwo z oq ?_) (hS.put z oq hwo)
  show H1[a]? = some (vp_cell _ _)
  rw [e]
  show some ((vp_cell _ _).setSlot _ _) = _
  rw [vp_cell_i, vp_cell_i, arrV_store]
  congr 2
  funext q
  by_cases hq : q = i.toNatClampNeg
  · subst hq
    simp [updV, upd]
  · simp [updV, upd, hq]
theorem xsZ (Z : ZZ p s m args c cc own nL G) (hR : Rep G h H) (hS : va_S (AA G) s.heap H locs) {r : Option Nat} {i x : Int32} {K : Hp → Option α} (hq : stZ h r i x K = some y) (hd : decode cc pc = .ok (.bastore, 1))
    (kk : ∀ (h : Hp) (H1 : Heap) (locs1 : List Loc), K h = some y → Rep G h H1 → va_S (AA G) s.heap H1 locs1 → W p l e R s m args below meth c H1 locs1 cells slots Q (F0 m (pc + 1) ls rest)) : W p l e R s m args below meth c H locs cells slots Q (F0 m pc ls (.int x :: .int i :: va_rf r :: rest)) := by
  obtain ⟨hx, hb, hml, hown, hts, hK, -, -, -⟩ := Z
  obtain ⟨a, n, f, rfl, he, hq⟩ := arZ_inv hq
  obtain ⟨⟨hin, hbo⟩, hq⟩ := ite_inv hq
  have hin := vp_in_of2 hin
  have hwo : G.1.1 ≤ a := (hR.2.2 a _ he).2.Z
  have hnx : narrow .boolean (.int x) = .int x := by rcases hbo with rfl | rfl <;> decide
  refine W.zast hx hb (hR.2.2 a _ he).1 ((KKz hK) n (fun j => .int (f j))) (fun q => by cases q) (by show ¬ (i < 0 ∨ (arrV _ _ _).slots.size ≤ _); rw [arrV_size]; exact hin) rfl rfl hd fun H1 e z oq => ?_
  refine kk _ H1 _ hq (hR.put hwo z oq ?_) (hS.put z oq hwo)
  show H1[a]? = some (vp_cell _ _)
  rw [e]
  show some ((vp_cell _ _).setSlot _ _) = _
  rw [vp_cell_i, vp_cell_i, arrV_store]
  congr 2
  funext q
  by_cases hq : q = i.toNatClampNeg
  · subst hq
    simp [updV, upd, hnx]
  · simp [updV, upd, hq]
theorem xlI (Z : ZZ p s m args c cc own nL G) (hR : Rep G h H) {r : Option Nat} {K : Int32 → Option α} (hq : alI h r K = some y) (hd : decode cc pc = .ok (.arraylength, 1))
    (kk : ∀ x : Int32, K x = some y → W p l e R s m args below meth c H locs cells slots Q (F0 m (pc + 1) ls (.int x :: rest))) : W p l e R s m args below meth c H locs cells slots Q (F0 m pc ls (va_rf r :: rest)) := by
  obtain ⟨hx, hb, hml, hown, hts, hK, -, -, -⟩ := Z
  obtain ⟨a, n, f, rfl, he, hq⟩ := arI_inv hq
  exact W.alen (n := Int32.ofNat n) hx hb (hR.2.2 a _ he).1 ((KKi hK) n (fun j => .int (f j))) (by show (vp_cell _ _).slots.size.toInt32 = _; rw [vp_cell_i, arrV_size] <;> rfl) rfl rfl hd (kk _ hq)
theorem xlR (Z : ZZ p s m args c cc own nL G) (hR : Rep G h H) {r : Option Nat} {K : Int32 → Option α} (hq : alR h r K = some y) (hd : decode cc pc = .ok (.arraylength, 1))
    (kk : ∀ x : Int32, K x = some y → W p l e R s m args below meth c H locs cells slots Q (F0 m (pc + 1) ls (.int x :: rest))) : W p l e R s m args below meth c H locs cells slots Q (F0 m pc ls (va_rf r :: rest)) := by
  obtain ⟨hx, hb, hml, hown, hts, hK, -, -, -⟩ := Z
  obtain ⟨a, n, f, rfl, he, hq⟩ := arR_inv hq
  exact W.alen (n := Int32.ofNat n) hx hb (hR.2.2 a _ he).1 ((KKo hK) n (fun j => va_rf (f j))) (by show (vp_cell _ _).slots.size.toInt32 = _; rw [vp_cell_q, arrV_size] <;> rfl) rfl rfl hd (kk _ hq)
theorem hS_new {H1 : Heap} (hS : va_S (AA G) s.heap H locs) (z1 : H1.size = H.size + 1) (o1 : ∀ q : Nat, q < H.size → H1[q]? = H[q]?) : va_S (AA G) s.heap H1 locs :=
  ⟨Nat.le_trans hS.1 (by omega), fun x h1 h2 => (o1 x (Nat.lt_of_lt_of_le h1 hS.1)).trans (hS.2.1 x h1 h2), hS.2.2⟩
theorem xnO (Z : ZZ p s m args c cc own nL G) (hR : Rep G h H) (hS : va_S (AA G) s.heap H locs) {ci idx N : Nat} {C : String} {K : Nat → Hp → Option α} (hq : nwO h ci K = some y) (hn : NL own idx C ci N) (hcells : cells + 1 ≤ R.cells) (hslots : slots + N ≤ R.slots) (hd : decode cc pc = .ok (.new idx, 3))
    (kk : ∀ (a : Nat) (h : Hp) (H1 : Heap), K a h = some y → Rep G h H1 → va_S (AA G) s.heap H1 locs → W p l e R s m args below meth c H1 locs (cells + 1) (slots + N) Q (F0 m (pc + 3) ls (.ref a :: rest))) : W p l e R s m args below meth c H locs cells slots Q (F0 m pc ls rest) := by
  obtain ⟨hx, hb, hml, hown, hts, hK, -, -, -⟩ := Z
  obtain ⟨⟨T, hc⟩, hcl, hinst, hini⟩ := hn
  obtain ⟨hin, hty, hnm⟩ := cls_ok ci C T N hc
  have hKn := hK.1 ci _ hc
  refine W.newcK hx hb hown (hts _ hcl) (hts _ hinst) (hts _ hini) rfl hd hcells hslots hKn.2.1 rfl fun H1 kC hkC e1 z1 o1 => ?_
  rw [hR.1]
  refine kk h.1 _ H1 hq (hR.new z1 o1 ⟨_, hc, (u_born (tyC ci) hts hin hKn hkC e1 hty).to (fun k _ => ?_)⟩) (hS_new hS z1 o1)
  exact tyC_dv ci k
theorem xnI (Z : ZZ p s m args c cc own nL G) (hR : Rep G h H) (hS : va_S (AA G) s.heap H locs) {n : Int32} {N : Nat} {K : Nat → Hp → Option α} (hq : nwI h N K = some y) (harr : Cond.arrayClass .int ∈ GT) (hn : ¬ n < 0) (hN : n.toNatClampNeg = N) (hbytes : N * componentBytes .int ≤ 536870912) (hcells : cells + 1 ≤ R.cells) (hslots : slots + N ≤ R.slots) (hd : decode cc pc = .ok (.newarray .int, 2))
    (kk : ∀ (a : Nat) (h : Hp) (H1 : Heap), K a h = some y → Rep G h H1 → va_S (AA G) s.heap H1 locs → W p l e R s m args below meth c H1 locs (cells + 1) (slots + N) Q (F0 m (pc + 2) ls (.ref a :: rest))) : W p l e R s m args below meth c H locs cells slots Q (F0 m pc ls (.int n :: rest)) := by
  obtain ⟨hx, hb, hml, hown, hts, hK, -, -, -⟩ := Z
  refine va_newaK (atype := .int) hx hb (hts _ harr) rfl hd rfl hn hN hbytes hcells hslots rfl fun H1 cA e1 z1 o1 hAr hNm => ?_
  have hcA : cA = G.2.2.1 := Option.some.inj (hNm.symm.trans (hK.2 0 _ rfl).2)
  subst hcA
  rw [hR.1]
  refine kk h.1 _ H1 hq (hR.new z1 o1 ?_) (hS_new hS z1 o1)
  show H1[H.size]? = some (vp_cell _ _)
  rw [vp_cell_i]
  exact e1
theorem xnZ (Z : ZZ p s m args c cc own nL G) (hR : Rep G h H) (hS : va_S (AA G) s.heap H locs) {n : Int32} {N : Nat} {K : Nat → Hp → Option α} (hq : nwZ h N K = some y) (harr : Cond.arrayClass .boolean ∈ GT) (hn : ¬ n < 0) (hN : n.toNatClampNeg = N) (hbytes : N * componentBytes .boolean ≤ 536870912) (hcells : cells + 1 ≤ R.cells) (hslots : slots + N ≤ R.slots) (hd : decode cc pc = .ok (.newarray .boolean, 2))
    (kk : ∀ (a : Nat) (h : Hp) (H1 : Heap), K a h = some y → Rep G h H1 → va_S (AA G) s.heap H1 locs → W p l e R s m args below meth c H1 locs (cells + 1) (slots + N) Q (F0 m (pc + 2) ls (.ref a :: rest))) : W p l e R s m args below meth c H locs cells slots Q (F0 m pc ls (.int n :: rest)) := by
  obtain ⟨hx, hb, hml, hown, hts, hK, -, -, -⟩ := Z
  refine va_newaK (atype := .boolean) hx hb (hts _ harr) rfl hd rfl hn hN hbytes hcells hslots rfl fun H1 cA e1 z1 o1 hAr hNm => ?_
  have hcA : cA = G.2.2.2.1 := Option.some.inj (hNm.symm.trans (hK.2 1 _ rfl).2)
  subst hcA
  rw [hR.1]
  refine kk h.1 _ H1 hq (hR.new z1 o1 ?_) (hS_new hS z1 o1)
  show H1[H.size]? = some (vp_cell _ _)
  rw [vp_cell_i]
  exact e1
end RW
end
section
/-! the rows of control, of locals, of calls and of returns, over the values' functions -/
def FU : Nat := 5000
def LV (ls : Array Slot) (nL : Nat) (l : List (Nat × Value)) : Prop := lv_has ls nL l ∧ ∀ q ∈ l, q.2.category = 1
theorem LV.at {ls : Array Slot} {nL : Nat} {l : List (Nat × Value)} (h : LV ls nL l) (k : Nat) {i : Nat} {v : Value} (hk : l[k]? = some (i, v)) : ls[i]? = some (.val v) := lv_at h.1 k hk
theorem LV.sub {ls : Array Slot} {nL : Nat} {l l' : List (Nat × Value)} (h : LV ls nL l) (ks : List Nat) (hl : lv_pick l ks = l') : LV ls nL l' := by
  refine ⟨lv_sub h.1 ks hl, fun q hq => ?_⟩
  rw [← hl] at hq
  obtain ⟨k, -, hk⟩ := List.mem_filterMap.mp hq
  exact h.2 q (List.mem_of_getElem? hk)
theorem LV.sz {ls : Array Slot} {nL : Nat} {l : List (Nat × Value)} (h : LV ls nL l) : ls.size = nL := h.1.1
theorem rf_cat (r : Option Nat) : (va_rf r).category = 1 := by cases r <;> rfl
theorem LV.store {ls : Array Slot} {nL : Nat} {l : List (Nat × Value)} {i : Nat} {v : Value} (h : LV ls nL l) (hi : i < nL) (hc : v.category = 1) : ∃ ls', storeLocals ls i v = some ls' ∧ LV ls' nL ((i, v) :: l.filter (fun q => !(q.1 == i))) := by
  obtain ⟨ls', e1, e2⟩ := lv_store1 h.1 hi hc
  have e3 : l.filter (fun q => !(q.1 == i) && !(q.1 + 1 == i && q.2.category == 2)) = l.filter (fun q => !(q.1 == i)) := by
    apply List.filter_congr
    intro q hq
    rw [h.2 q hq]
    simp
  rw [e3] at e2
  refine ⟨ls', e1, e2, fun q hq => ?_⟩
  rcases List.mem_cons.mp hq with z | z
  · rw [z]; exact hc
  · exact h.2 q (List.mem_filter.mp z).1
section RC
variable {p : Program} {l : Launch} {e : Env} {R : Room} {s : State} {m : MethodId} {args : Array Value} {below : List Frame} {meth : Method} {c : Code} {H : Heap} {locs : List Loc} {cells slots : Nat} {Q : State → Prop}
variable {cc : ByteArray} {pc nL : Nat} {ls : Array Slot} {rest : List Value} {own : String} {G : GG} {h : Hp} {α : Type} {y : α} {lv lv' : List (Nat × Value)}
theorem xil (hx : p.tables.exec = Jvm.exec) (hb : c.code = cc) (hl : LV ls nL lv) {i : Nat} {x : Int32} (k : Nat) (hk : lv[k]? = some (i, .int x)) (hd : decode cc pc = .ok (.iload i, 2))
    (kk : W p l e R s m args below meth c H locs cells slots Q (F0 m (pc + 2) ls (.int x :: rest))) : W p l e R s m args below meth c H locs cells slots Q (F0 m pc ls rest) := lv_iload hx hb hd (hl.at k hk) kk
theorem xiln (hx : p.tables.exec = Jvm.exec) (hb : c.code = cc) (hl : LV ls nL lv) {i : Fin 4} {x : Int32} (k : Nat) (hk : lv[k]? = some (i.val, .int x)) (hd : decode cc pc = .ok (.iload_n i, 1))
    (kk : W p l e R s m args below meth c H locs cells slots Q (F0 m (pc + 1) ls (.int x :: rest))) : W p l e R s m args below meth c H locs cells slots Q (F0 m pc ls rest) := lv_iload_n hx hb hd rfl (hl.at k hk) kk
theorem xal (hx : p.tables.exec = Jvm.exec) (hb : c.code = cc) (hl : LV ls nL lv) {i : Nat} {x : Option Nat} (k : Nat) (hk : lv[k]? = some (i, va_rf x)) (hd : decode cc pc = .ok (.aload i, 2))
    (kk : W p l e R s m args below meth c H locs cells slots Q (F0 m (pc + 2) ls (va_rf x :: rest))) : W p l e R s m args below meth c H locs cells slots Q (F0 m pc ls rest) := by
  cases x with
  | none => exact lv_aloadN hx hb hd (hl.at k hk) kk
  | some a => exact lv_aload hx hb hd (hl.at k hk) kk
theorem xaln (hx : p.tables.exec = Jvm.exec) (hb : c.code = cc) (hl : LV ls nL lv) {i : Fin 4} {x : Option Nat} (k : Nat) (hk : lv[k]? = some (i.val, va_rf x)) (hd : decode cc pc = .ok (.aload_n i, 1))
    (kk : W p l e R s m args below meth c H locs cells slots Q (F0 m (pc + 1) ls (va_rf x :: rest))) : W p l e R s m args below meth c H locs cells slots Q (F0 m pc ls rest) := by
  cases x with
  | none => exact lv_aload_nN hx hb hd rfl (hl.at k hk) kk
  | some a => exact lv_aload_n hx hb hd rfl (hl.at k hk) kk
theorem xis (hx : p.tables.exec = Jvm.exec) (hb : c.code = cc) (hl : LV ls nL lv) {i : Nat} {x : Int32} (hn : i < nL) (hd : decode cc pc = .ok (.istore i, 2)) (hv : (i, Value.int x) :: lv.filter (fun q => !(q.1 == i)) = lv')
    (kk : ∀ ls' : Array Slot, LV ls' nL lv' → W p l e R s m args below meth c H locs cells slots Q (F0 m (pc + 2) ls' rest)) : W p l e R s m args below meth c H locs cells slots Q (F0 m pc ls (.int x :: rest)) := by
  obtain ⟨ls', e', h'⟩ := hl.store (v := .int x) hn rfl
  intro T hT X
  obtain ⟨t, a, b⟩ := kk ls' (hv ▸ h') T hT X
  refine ⟨t, ?_, b⟩
  jvm_step X.here [X.here.top, ↓top_set X.here.top, hx, hb, hd, e']
  exact a
theorem xisn (hx : p.tables.exec = Jvm.exec) (hb : c.code = cc) (hl : LV ls nL lv) {i : Fin 4} {x : Int32} (hn : i.val < nL) (hd : decode cc pc = .ok (.istore_n i, 1)) (hv : (i.val, Value.int x) :: lv.filter (fun q => !(q.1 == i.val)) = lv')
    (kk : ∀ ls' : Array Slot, LV ls' nL lv' → W p l e R s m args below meth c H locs cells slots Q (F0 m (pc + 1) ls' rest)) : W p l e R s m args below meth c H locs cells slots Q (F0 m pc ls (.int x :: rest)) := by
  obtain ⟨ls', e', h'⟩ := hl.store (v := .int x) hn rfl
  intro T hT X
  obtain ⟨t, a, b⟩ := kk ls' (hv ▸ h') T hT X
  refine ⟨t, ?_, b⟩
  jvm_step X.here [X.here.top, ↓top_set X.here.top, hx, hb, hd, e']
  exact a
theorem xas (hx : p.tables.exec = Jvm.exec) (hb : c.code = cc) (hl : LV ls nL lv) {i : Nat} {x : Option Nat} (hn : i < nL) (hd : decode cc pc = .ok (.astore i, 2)) (hv : (i, va_rf x) :: lv.filter (fun q => !(q.1 == i)) = lv')
    (kk : ∀ ls' : Array Slot, LV ls' nL lv' → W p l e R s m args below meth c H locs cells slots Q (F0 m (pc + 2) ls' rest)) : W p l e R s m args below meth c H locs cells slots Q (F0 m pc ls (va_rf x :: rest)) := by
  obtain ⟨ls', e', h'⟩ := hl.store (v := va_rf x) hn (rf_cat x)
  intro T hT X
  obtain ⟨t, a, b⟩ := kk ls' (hv ▸ h') T hT X
  refine ⟨t, ?_, b⟩
  cases x <;> (simp only [va_rf] at e' ⊢; jvm_step X.here [X.here.top, ↓top_set X.here.top, hx, hb, hd, e', Value.isRef]; exact a)
theorem xasn (hx : p.tables.exec = Jvm.exec) (hb : c.code = cc) (hl : LV ls nL lv) {i : Fin 4} {x : Option Nat} (hn : i.val < nL) (hd : decode cc pc = .ok (.astore_n i, 1)) (hv : (i.val, va_rf x) :: lv.filter (fun q => !(q.1 == i.val)) = lv')
    (kk : ∀ ls' : Array Slot, LV ls' nL lv' → W p l e R s m args below meth c H locs cells slots Q (F0 m (pc + 1) ls' rest)) : W p l e R s m args below meth c H locs cells slots Q (F0 m pc ls (va_rf x :: rest)) := by
  obtain ⟨ls', e', h'⟩ := hl.store (v := va_rf x) hn (rf_cat x)
  intro T hT X
  obtain ⟨t, a, b⟩ := kk ls' (hv ▸ h') T hT X
  refine ⟨t, ?_, b⟩
  cases x <;> (simp only [va_rf] at e' ⊢; jvm_step X.here [X.here.top, ↓top_set X.here.top, hx, hb, hd, e', Value.isRef]; exact a)
theorem xinc (hx : p.tables.exec = Jvm.exec) (hb : c.code = cc) (hl : LV ls nL lv) {i : Nat} {n : Int} {x v : Int32} (k : Nat) (hk : lv[k]? = some (i, .int x)) (hw : x + Int32.ofInt n = v) (hn : i < nL) (hd : decode cc pc = .ok (.iinc i n, 3)) (hv : (i, Value.int v) :: lv.filter (fun q => !(q.1 == i)) = lv')
    (kk : ∀ ls' : Array Slot, LV ls' nL lv' → W p l e R s m args below meth c H locs cells slots Q (F0 m (pc + 3) ls' rest)) : W p l e R s m args below meth c H locs cells slots Q (F0 m pc ls rest) := by
  obtain ⟨ls', e', h'⟩ := hl.store (v := .int v) hn rfl
  have hg := hl.at k hk
  subst hw
  intro T hT X
  obtain ⟨t, a, b⟩ := kk ls' (hv ▸ h') T hT X
  refine ⟨t, ?_, b⟩
  jvm_step X.here [X.here.top, ↓top_set X.here.top, hx, hb, hd, hg, e']
  exact a
theorem xcEq (hx : p.tables.exec = Jvm.exec) (hb : c.code = cc) {x z : Int32} {A B : Option α} (hq : (if x = z then A else B) = some y) {off : Int} {tgt : Nat} (hd : decode cc pc = .ok (.if_icmp .eq off, 3)) (ht : (pc : Int) + off = (tgt : Int)) (kt : A = some y → W p l e R s m args below meth c H locs cells slots Q (F0 m tgt ls rest)) (kf : B = some y → W p l e R s m args below meth c H locs cells slots Q (F0 m (pc + 3) ls rest)) : W p l e R s m args below meth c H locs cells slots Q (F0 m pc ls (.int z :: .int x :: rest)) := lv_icmp_eq hx hb hd ht (fun z => kt (ite_t hq z)) (fun z => kf (ite_f hq z))
theorem xcNe (hx : p.tables.exec = Jvm.exec) (hb : c.code = cc) {x z : Int32} {A B : Option α} (hq : (if x = z then B else A) = some y) {off : Int} {tgt : Nat} (hd : decode cc pc = .ok (.if_icmp .ne off, 3)) (ht : (pc : Int) + off = (tgt : Int)) (kt : A = some y → W p l e R s m args below meth c H locs cells slots Q (F0 m tgt ls rest)) (kf : B = some y → W p l e R s m args below meth c H locs cells slots Q (F0 m (pc + 3) ls rest)) : W p l e R s m args below meth c H locs cells slots Q (F0 m pc ls (.int z :: .int x :: rest)) := lv_icmp_ne hx hb hd ht (fun z => kt (ite_f hq z)) (fun z => kf (ite_t hq (by first | exact z | exact Classical.not_not.mp z)))
theorem xcLt (hx : p.tables.exec = Jvm.exec) (hb : c.code = cc) {x z : Int32} {A B : Option α} (hq : (if x < z then A else B) = some y) {off : Int} {tgt : Nat} (hd : decode cc pc = .ok (.if_icmp .lt off, 3)) (ht : (pc : Int) + off = (tgt : Int)) (kt : A = some y → W p l e R s m args below meth c H locs cells slots Q (F0 m tgt ls rest)) (kf : B = some y → W p l e R s m args below meth c H locs cells slots Q (F0 m (pc + 3) ls rest)) : W p l e R s m args below meth c H locs cells slots Q (F0 m pc ls (.int z :: .int x :: rest)) := lv_icmp_lt hx hb hd ht (fun z => kt (ite_t hq z)) (fun z => kf (ite_f hq z))
theorem xcGe (hx : p.tables.exec = Jvm.exec) (hb : c.code = cc) {x z : Int32} {A B : Option α} (hq : (if z ≤ x then A else B) = some y) {off : Int} {tgt : Nat} (hd : decode cc pc = .ok (.if_icmp .ge off, 3)) (ht : (pc : Int) + off = (tgt : Int)) (kt : A = some y → W p l e R s m args below meth c H locs cells slots Q (F0 m tgt ls rest)) (kf : B = some y → W p l e R s m args below meth c H locs cells slots Q (F0 m (pc + 3) ls rest)) : W p l e R s m args below meth c H locs cells slots Q (F0 m pc ls (.int z :: .int x :: rest)) := lv_icmp_ge hx hb hd ht (fun z => kt (ite_t hq z)) (fun z => kf (ite_f hq z))
theorem xcGt (hx : p.tables.exec = Jvm.exec) (hb : c.code = cc) {x z : Int32} {A B : Option α} (hq : (if z < x then A else B) = some y) {off : Int} {tgt : Nat} (hd : decode cc pc = .ok (.if_icmp .gt off, 3)) (ht : (pc : Int) + off = (tgt : Int)) (kt : A = some y → W p l e R s m args below meth c H locs cells slots Q (F0 m tgt ls rest)) (kf : B = some y → W p l e R s m args below meth c H locs cells slots Q (F0 m (pc + 3) ls rest)) : W p l e R s m args below meth c H locs cells slots Q (F0 m pc ls (.int z :: .int x :: rest)) := lv_icmp_gt hx hb hd ht (fun z => kt (ite_t hq z)) (fun z => kf (ite_f hq z))
theorem xcLe (hx : p.tables.exec = Jvm.exec) (hb : c.code = cc) {x z : Int32} {A B : Option α} (hq : (if x ≤ z then A else B) = some y) {off : Int} {tgt : Nat} (hd : decode cc pc = .ok (.if_icmp .le off, 3)) (ht : (pc : Int) + off = (tgt : Int)) (kt : A = some y → W p l e R s m args below meth c H locs cells slots Q (F0 m tgt ls rest)) (kf : B = some y → W p l e R s m args below meth c H locs cells slots Q (F0 m (pc + 3) ls rest)) : W p l e R s m args below meth c H locs cells slots Q (F0 m pc ls (.int z :: .int x :: rest)) := lv_icmp_le hx hb hd ht (fun z => kt (ite_t hq z)) (fun z => kf (ite_f hq z))
theorem xzEq (hx : p.tables.exec = Jvm.exec) (hb : c.code = cc) {x : Int32} {A B : Option α} (hq : (if x = 0 then A else B) = some y) {off : Int} {tgt : Nat} (hd : decode cc pc = .ok (.ifCond .eq off, 3)) (ht : (pc : Int) + off = (tgt : Int)) (kt : A = some y → W p l e R s m args below meth c H locs cells slots Q (F0 m tgt ls rest)) (kf : B = some y → W p l e R s m args below meth c H locs cells slots Q (F0 m (pc + 3) ls rest)) : W p l e R s m args below meth c H locs cells slots Q (F0 m pc ls (.int x :: rest)) := lv_if_eq hx hb hd ht (fun z => kt (ite_t hq z)) (fun z => kf (ite_f hq z))
theorem xzNe (hx : p.tables.exec = Jvm.exec) (hb : c.code = cc) {x : Int32} {A B : Option α} (hq : (if x = 0 then B else A) = some y) {off : Int} {tgt : Nat} (hd : decode cc pc = .ok (.ifCond .ne off, 3)) (ht : (pc : Int) + off = (tgt : Int)) (kt : A = some y → W p l e R s m args below meth c H locs cells slots Q (F0 m tgt ls rest)) (kf : B = some y → W p l e R s m args below meth c H locs cells slots Q (F0 m (pc + 3) ls rest)) : W p l e R s m args below meth c H locs cells slots Q (F0 m pc ls (.int x :: rest)) := lv_if_ne hx hb hd ht (fun z => kt (ite_f hq z)) (fun z => kf (ite_t hq (by first | exact z | exact Classical.not_not.mp z)))
theorem xzLt (hx : p.tables.exec = Jvm.exec) (hb : c.code = cc) {x : Int32} {A B : Option α} (hq : (if x < 0 then A else B) = some y) {off : Int} {tgt : Nat} (hd : decode cc pc = .ok (.ifCond .lt off, 3)) (ht : (pc : Int) + off = (tgt : Int)) (kt : A = some y → W p l e R s m args below meth c H locs cells slots Q (F0 m tgt ls rest)) (kf : B = some y → W p l e R s m args below meth c H locs cells slots Q (F0 m (pc + 3) ls rest)) : W p l e R s m args below meth c H locs cells slots Q (F0 m pc ls (.int x :: rest)) := lv_if_lt hx hb hd ht (fun z => kt (ite_t hq z)) (fun z => kf (ite_f hq z))
theorem xzGe (hx : p.tables.exec = Jvm.exec) (hb : c.code = cc) {x : Int32} {A B : Option α} (hq : (if 0 ≤ x then A else B) = some y) {off : Int} {tgt : Nat} (hd : decode cc pc = .ok (.ifCond .ge off, 3)) (ht : (pc : Int) + off = (tgt : Int)) (kt : A = some y → W p l e R s m args below meth c H locs cells slots Q (F0 m tgt ls rest)) (kf : B = some y → W p l e R s m args below meth c H locs cells slots Q (F0 m (pc + 3) ls rest)) : W p l e R s m args below meth c H locs cells slots Q (F0 m pc ls (.int x :: rest)) := lv_if_ge hx hb hd ht (fun z => kt (ite_t hq z)) (fun z => kf (ite_f hq z))
theorem xzGt (hx : p.tables.exec = Jvm.exec) (hb : c.code = cc) {x : Int32} {A B : Option α} (hq : (if 0 < x then A else B) = some y) {off : Int} {tgt : Nat} (hd : decode cc pc = .ok (.ifCond .gt off, 3)) (ht : (pc : Int) + off = (tgt : Int)) (kt : A = some y → W p l e R s m args below meth c H locs cells slots Q (F0 m tgt ls rest)) (kf : B = some y → W p l e R s m args below meth c H locs cells slots Q (F0 m (pc + 3) ls rest)) : W p l e R s m args below meth c H locs cells slots Q (F0 m pc ls (.int x :: rest)) := lv_if_gt hx hb hd ht (fun z => kt (ite_t hq z)) (fun z => kf (ite_f hq z))
theorem xzLe (hx : p.tables.exec = Jvm.exec) (hb : c.code = cc) {x : Int32} {A B : Option α} (hq : (if x ≤ 0 then A else B) = some y) {off : Int} {tgt : Nat} (hd : decode cc pc = .ok (.ifCond .le off, 3)) (ht : (pc : Int) + off = (tgt : Int)) (kt : A = some y → W p l e R s m args below meth c H locs cells slots Q (F0 m tgt ls rest)) (kf : B = some y → W p l e R s m args below meth c H locs cells slots Q (F0 m (pc + 3) ls rest)) : W p l e R s m args below meth c H locs cells slots Q (F0 m pc ls (.int x :: rest)) := lv_if_le hx hb hd ht (fun z => kt (ite_t hq z)) (fun z => kf (ite_f hq z))
theorem xnul (hx : p.tables.exec = Jvm.exec) (hb : c.code = cc) {r : Option Nat} {A B : Option α} (hq : (if r = none then A else B) = some y) {off : Int} {tgt : Nat} (hd : decode cc pc = .ok (.ifnull off, 3)) (ht : (pc : Int) + off = (tgt : Int)) (kt : A = some y → W p l e R s m args below meth c H locs cells slots Q (F0 m tgt ls rest)) (kf : B = some y → W p l e R s m args below meth c H locs cells slots Q (F0 m (pc + 3) ls rest)) : W p l e R s m args below meth c H locs cells slots Q (F0 m pc ls (va_rf r :: rest)) := by
  cases r with
  | none => exact lv_ifnullN hx hb hd ht (kt (ite_t hq rfl))
  | some a => exact lv_ifnull hx hb hd (kf (ite_f hq (fun z => by cases z)))
theorem xnon (hx : p.tables.exec = Jvm.exec) (hb : c.code = cc) {r : Option Nat} {A B : Option α} (hq : (if r = none then B else A) = some y) {off : Int} {tgt : Nat} (hd : decode cc pc = .ok (.ifnonnull off, 3)) (ht : (pc : Int) + off = (tgt : Int)) (kt : A = some y → W p l e R s m args below meth c H locs cells slots Q (F0 m tgt ls rest)) (kf : B = some y → W p l e R s m args below meth c H locs cells slots Q (F0 m (pc + 3) ls rest)) : W p l e R s m args below meth c H locs cells slots Q (F0 m pc ls (va_rf r :: rest)) := by
  cases r with
  | none => exact lv_ifnonnullN hx hb hd (kf (ite_t hq rfl))
  | some a => exact lv_ifnonnull hx hb hd ht (kt (ite_f hq (fun z => by cases z)))
theorem xaEq (hx : p.tables.exec = Jvm.exec) (hb : c.code = cc) {r q : Option Nat} {A B : Option α} (hq : (if r = q then A else B) = some y) {off : Int} {tgt : Nat} (hd : decode cc pc = .ok (.if_acmp .eq off, 3)) (ht : (pc : Int) + off = (tgt : Int)) (kt : A = some y → W p l e R s m args below meth c H locs cells slots Q (F0 m tgt ls rest)) (kf : B = some y → W p l e R s m args below meth c H locs cells slots Q (F0 m (pc + 3) ls rest)) : W p l e R s m args below meth c H locs cells slots Q (F0 m pc ls (va_rf q :: va_rf r :: rest)) := lv_acmp_eq hx hb hd ht (fun z => kt (ite_t hq z)) (fun z => kf (ite_f hq z))
theorem xaNe (hx : p.tables.exec = Jvm.exec) (hb : c.code = cc) {r q : Option Nat} {A B : Option α} (hq : (if r = q then B else A) = some y) {off : Int} {tgt : Nat} (hd : decode cc pc = .ok (.if_acmp .ne off, 3)) (ht : (pc : Int) + off = (tgt : Int)) (kt : A = some y → W p l e R s m args below meth c H locs cells slots Q (F0 m tgt ls rest)) (kf : B = some y → W p l e R s m args below meth c H locs cells slots Q (F0 m (pc + 3) ls rest)) : W p l e R s m args below meth c H locs cells slots Q (F0 m pc ls (va_rf q :: va_rf r :: rest)) := lv_acmp_ne hx hb hd ht (fun z => kt (ite_f hq z)) (fun z => kf (ite_t hq z))
theorem xrI (hx : p.tables.exec = Jvm.exec) (hb : c.code = cc) (hr : meth.sig.returnType = some .int) (hlk : meth.locks = false) (hR : Rep G h H) (hS : va_S (AA G) s.heap H locs) {x v : Int32} {h1 : Hp} {mc ms : Nat} (hq : rtI x h = some (v, h1)) (hmc : cells ≤ mc) (hms : slots ≤ ms) (hd : decode cc pc = .ok (.ireturn, 1)) : W p l e R s m args below meth c H locs cells slots (MQ below (Qx G (some (.int v)) h1) args s mc ms (AA G)) (F0 m pc ls [.int x]) := by
  cases hq
  exact W.widen (k := mc) (n := ms) hmc hms (W.iret hx hb hr (fun t ht hW => ⟨⟨rfl, by rw [ht]; exact hR⟩, hS.F ht⟩) hS.2.2 hd hlk)
theorem xrZ (hx : p.tables.exec = Jvm.exec) (hb : c.code = cc) (hr : meth.sig.returnType = some .boolean) (hlk : meth.locks = false) (hR : Rep G h H) (hS : va_S (AA G) s.heap H locs) {x v : Int32} {h1 : Hp} {mc ms : Nat} (hq : rtZ x h = some (v, h1)) (hmc : cells ≤ mc) (hms : slots ≤ ms) (hd : decode cc pc = .ok (.ireturn, 1)) : W p l e R s m args below meth c H locs cells slots (MQ below (Qx G (some (.int v)) h1) args s mc ms (AA G)) (F0 m pc ls [.int x]) := by
  obtain ⟨hb2, hq⟩ := ite_inv hq
  cases hq
  exact W.widen (k := mc) (n := ms) hmc hms (W.zret hx hb hr (by rcases hb2 with rfl | rfl <;> decide) (fun t ht hW => ⟨⟨rfl, by rw [ht]; exact hR⟩, hS.F ht⟩) hS.2.2 hd hlk)
theorem xrV (hx : p.tables.exec = Jvm.exec) (hb : c.code = cc) (hr : meth.sig.returnType = none) (hlk : meth.locks = false) (hR : Rep G h H) (hS : va_S (AA G) s.heap H locs) {v : Unit} {h1 : Hp} {mc ms : Nat} (hq : rtV h = some (v, h1)) (hmc : cells ≤ mc) (hms : slots ≤ ms) (hd : decode cc pc = .ok (.return_, 1)) : W p l e R s m args below meth c H locs cells slots (MQ below (Qx G none h1) args s mc ms (AA G)) (F0 m pc ls []) := by
  cases hq
  exact W.widen (k := mc) (n := ms) hmc hms (W.vret hx hb hr (fun t ht hW => ⟨⟨rfl, by rw [ht]; exact hR⟩, hS.F ht⟩) hS.2.2 hd hlk)
theorem xrR (hx : p.tables.exec = Jvm.exec) (hb : c.code = cc) {rt : FieldType} (hr : meth.sig.returnType = some rt) (hrt : (∃ n, rt = .object n) ∨ ∃ t, rt = .array t) (hlk : meth.locks = false) (hR : Rep G h H) (hS : va_S (AA G) s.heap H locs) {x v : Option Nat} {h1 : Hp} {mc ms : Nat} (hq : rtR x h = some (v, h1)) (hmc : cells ≤ mc) (hms : slots ≤ ms) (hd : decode cc pc = .ok (.areturn, 1)) : W p l e R s m args below meth c H locs cells slots (MQ below (Qx G (some (va_rf v)) h1) args s mc ms (AA G)) (F0 m pc ls [va_rf x]) := by
  cases hq
  exact W.widen (k := mc) (n := ms) hmc hms (W.aret hx hb hr hrt (va_rf_or x) (fun t ht hW => ⟨⟨rfl, by rw [ht]; exact hR⟩, hS.F ht⟩) hS.2.2 hd hlk)
theorem pre_ok (Z : ZZ p s m args c cc own nL G) (hR : Rep G h H) (hS : va_S (AA G) s.heap H locs) : ∀ U : State, U.heap = H → s.WarmedH U.vm → Cn G h U := by
  obtain ⟨hx, hb, hml, hown, hts, hK, hZ, hN, hB⟩ := Z
  intro U hU hW
  have hZ1 := va_Z.kept (H1 := H) hZ (fun a h1 h2 => hS.2.1 a h1 h2)
  exact ⟨by rw [hU]; exact hR, va_K.moved hW.alike hK, by rw [hU]; exact va_Z.moved hW.alike hZ1, hN.moved hW⟩
theorem xrun {mc ms : Nat} {st0 : List Value} {v : Option Value} {h1 : Hp} {a : Array Value} (hr : va_Run p l e R s m args below meth c H locs cells slots mc ms (F0 m pc ls st0) rest (Qx G v h1 a) (AA G)) (hS : va_S (AA G) s.heap H locs)
    (kk : ∀ (H1 : Heap) (locs1 : List Loc), Rep G h1 H1 → va_S (AA G) s.heap H1 locs1 → W p l e R s m args below meth c H1 locs1 (cells + mc) (slots + ms) Q (F0 m (pc + 3) ls (v.toList ++ rest))) : W p l e R s m args below meth c H locs cells slots Q (F0 m pc ls st0) := by
  intro T hT X
  obtain ⟨v', st₀, t, T', L, h0, X', hL, e1, e2, ⟨⟨hv, hp⟩, hz, hk⟩, st⟩ := hr T hT X
  cases hv
  rw [h0] at hz hk
  obtain ⟨t2, a1, b1⟩ := kk T'.heap (locs ++ L) (by rw [e1]; exact hp)
    ⟨Nat.le_trans hS.1 (by rw [e1]; exact hz), fun q h1 h2 => by rw [e1, hk q (Nat.lt_of_lt_of_le h1 hS.1) h2]; exact hS.2.1 q h1 h2, fun q hq => by
      rcases List.mem_append.mp hq with h | h
      · exact hS.2.2 q h
      · exact hL q h⟩ T' rfl X'
  exact ⟨t2, st t2 a1, b1⟩
theorem recv_ok (Z : ZZ p s m args c cc own nL G) (hR : Rep G h H) {ci a N : Nat} {C : String} {T : u_T} {I : Nat → Int32} {F : Nat → Option Nat} (he : h.2 a = some (eO ci I F)) (hc : vwCl[ci]? = some (C, T, N)) : ∃ cell : Cell, H[a]? = some cell ∧ cell.vm.isStatics = false ∧ s.vm.findClass C = some cell.cls := by
  obtain ⟨hx, hb, hml, hown, hts, hK, hZ, hN, hB⟩ := Z
  obtain ⟨q', h1, cell, g1, g2, g3, -⟩ := (hR.2.2 a _ he).1
  exact ⟨cell, g1, by rw [g3]; rfl, by rw [g2]; exact (hK.1 ci _ hc).2.1⟩
theorem xcV (Z : ZZ p s m args c cc own nL G) (hR : Rep G h H) (hS : va_S (AA G) s.heap H locs) (hl : LV ls nL lv) {ci idx maxL n mc ms : Nat} {yy : MethodName} {bytes : ByteArray} {ret : Option FieldType} {rm : Room} {β : Type} {r : Option Nat} {f : Nat → Option (β × Hp)} {K : β → Hp → Option α} {V : β → Option Value} {As st : List Value}
    (hq : rcv h r ci (fun b => bd (f b) K) = some y) (hv : VL own idx ci yy bytes maxL ret n) (hM : ∀ (b : Nat) (x : β) (h1 : Hp), f b = some (x, h1) → Met l yy (Cond.code yy bytes maxL ret :: GT) rm (va_Pc (.ref b :: As) (Cn G h)) (Qx G (V x) h1) mc ms (AA G))
    (hrm : (rm.cells = mc ∧ rm.slots = ms) ∧ rm.frames + 1 ≤ R.frames ∧ 8 + (maxL + 11) + rm.locals ≤ R.locals) (hn : As.length = n) (hst : st = As.reverse ++ va_rf r :: rest) (hw : (rest.map fun v => v.category).sum ≤ 8) (hd : decode cc pc = .ok (.invokevirtual idx, 3)) (hf : cells + mc ≤ R.cells ∧ slots + ms ≤ R.slots)
    (kk : ∀ (x : β) (h1 : Hp) (H1 : Heap) (locs1 : List Loc), K x h1 = some y → Rep G h1 H1 → va_S (AA G) s.heap H1 locs1 → W p l e R s m args below meth c H1 locs1 (cells + mc) (slots + ms) Q (F0 m (pc + 3) ls ((V x).toList ++ rest))) : W p l e R s m args below meth c H locs cells slots Q (F0 m pc ls st) := by
  obtain ⟨b, I, F, rfl, he, hq⟩ := obj_inv hq
  obtain ⟨x, h1, hc, hq⟩ := bd_inv hq
  obtain ⟨⟨T, N, hci⟩, ⟨k1, k2, k3, k4, k5⟩, k6⟩ := hv
  obtain ⟨hx, hb, hml, hown, hts, hrest⟩ := id Z
  subst hst
  have cw : CallW R s args own yy.cls idx yy bytes maxL ret (Cond.code yy bytes maxL ret :: GT) rm mc ms n :=
    ⟨callB_of n hts (tbl_code k5) rfl hrm.1.1 hrm.1.2 (hts _ k4) (hts _ k1) k6 hrm.2, hts _ k2, hts _ k3⟩
  refine xrun (va_runV (As := As) (rest := rest) (b := b) ⟨hx, hb, hml, hown, hts⟩ (hM b x h1 hc) cw ⟨Cn_blind G h _, recv_ok Z hR he hci, fun U hU hW => ⟨rfl, pre_ok Z hR hS U hU hW⟩⟩ rfl hn hl.sz rfl (lv_room hw) hd hf) hS (fun H1 locs1 hR1 hS1 => kk x h1 H1 locs1 hq hR1 hS1)
theorem xcS (Z : ZZ p s m args c cc own nL G) (hR : Rep G h H) (hS : va_S (AA G) s.heap H locs) (hl : LV ls nL lv) {idx maxL n mc ms : Nat} {yy : MethodName} {bytes : ByteArray} {ret : Option FieldType} {rm : Room} {β : Type} {f : Option (β × Hp)} {K : β → Hp → Option α} {V : β → Option Value} {As st : List Value}
    (hq : bd f K = some y) (hv : SL own idx yy bytes maxL ret n) (hM : ∀ (x : β) (h1 : Hp), f = some (x, h1) → Met l yy (Cond.code yy bytes maxL ret :: GT) rm (va_Pc As (Cn G h)) (Qx G (V x) h1) mc ms (AA G))
    (hrm : (rm.cells = mc ∧ rm.slots = ms) ∧ rm.frames + 1 ≤ R.frames ∧ 8 + (maxL + 11) + rm.locals ≤ R.locals) (hn : As.length = n) (hst : st = As.reverse ++ rest) (hw : (rest.map fun v => v.category).sum ≤ 8) (hd : decode cc pc = .ok (.invokestatic idx, 3)) (hf : cells + mc ≤ R.cells ∧ slots + ms ≤ R.slots)
    (kk : ∀ (x : β) (h1 : Hp) (H1 : Heap) (locs1 : List Loc), K x h1 = some y → Rep G h1 H1 → va_S (AA G) s.heap H1 locs1 → W p l e R s m args below meth c H1 locs1 (cells + mc) (slots + ms) Q (F0 m (pc + 3) ls ((V x).toList ++ rest))) : W p l e R s m args below meth c H locs cells slots Q (F0 m pc ls st) := by
  obtain ⟨x, h1, hc, hq⟩ := bd_inv hq
  obtain ⟨⟨k1, k2, k4, k5⟩, k6⟩ := hv
  obtain ⟨hx, hb, hml, hown, hts, hrest⟩ := id Z
  subst hst
  refine xrun (va_runS (As := As) (rest := rest) ⟨hx, hb, hml, hown, hts⟩ (hM x h1 hc) ⟨callB_of n hts (tbl_code k5) rfl hrm.1.1 hrm.1.2 (hts _ k4) (hts _ k1) k6 hrm.2, hts _ k2⟩ ⟨Cn_blind G h _, fun U hU hW => ⟨rfl, pre_ok Z hR hS U hU hW⟩⟩ rfl hn hl.sz rfl (lv_room hw) hd hf) hS (fun H1 locs1 hR1 hS1 => kk x h1 H1 locs1 hq hR1 hS1)
theorem xcI (Z : ZZ p s m args c cc own nL G) (hR : Rep G h H) (hS : va_S (AA G) s.heap H locs) (hl : LV ls nL lv) {idx maxL n mc ms b : Nat} {yy : MethodName} {bytes : ByteArray} {rm : Room} {f : Option (Unit × Hp)} {K : Unit → Hp → Option α} {As st : List Value}
    (hq : bd f K = some y) (hv : IL own idx yy bytes maxL n) (hM : ∀ (x : Unit) (h1 : Hp), f = some (x, h1) → Met l yy (Cond.code yy bytes maxL none :: GT) rm (va_Pc (.ref b :: As) (Cn G h)) (Qx G none h1) mc ms (AA G))
    (hrm : (rm.cells = mc ∧ rm.slots = ms) ∧ rm.frames + 1 ≤ R.frames ∧ 8 + (maxL + 11) + rm.locals ≤ R.locals) (hn : As.length = n) (hst : st = As.reverse ++ .ref b :: rest) (hw : (rest.map fun v => v.category).sum ≤ 8) (hd : decode cc pc = .ok (.invokespecial idx, 3)) (hf : cells + mc ≤ R.cells ∧ slots + ms ≤ R.slots)
    (kk : ∀ (x : Unit) (h1 : Hp) (H1 : Heap) (locs1 : List Loc), K x h1 = some y → Rep G h1 H1 → va_S (AA G) s.heap H1 locs1 → W p l e R s m args below meth c H1 locs1 (cells + mc) (slots + ms) Q (F0 m (pc + 3) ls rest)) : W p l e R s m args below meth c H locs cells slots Q (F0 m pc ls st) := by
  obtain ⟨x, h1, hc, hq⟩ := bd_inv hq
  obtain ⟨⟨k1, k2, k4, k5⟩, k7, k6⟩ := hv
  obtain ⟨hx, hb, hml, hown, hts, hrest⟩ := id Z
  subst hst
  refine xrun (va_runI (As := As) (rest := rest) (b := b) ⟨hx, hb, hml, hown, hts⟩ (hM x h1 hc) ⟨callB_of n hts (tbl_code k5) rfl hrm.1.1 hrm.1.2 (hts _ k4) (hts _ k1) k6 hrm.2, k7, hts _ k2⟩ ⟨Cn_blind G h _, fun U hU hW => ⟨rfl, pre_ok Z hR hS U hU hW⟩⟩ rfl hn hl.sz rfl (lv_room hw) hd hf) hS (fun H1 locs1 hR1 hS1 => kk x h1 H1 locs1 hq hR1 hS1)
theorem xck (Z : ZZ p s m args c cc own nL G) (hR : Rep G h H) {ci idx N : Nat} {C : String} {r : Option Nat} {K : Option α} (hq : ckc h r ci K = some y) (hv : (∃ T : u_T, vwCl[ci]? = some (C, T, N)) ∧ Cond.classLink own idx C ∈ GT) (hd : decode cc pc = .ok (.checkcast idx, 3))
    (kk : K = some y → W p l e R s m args below meth c H locs cells slots Q (F0 m (pc + 3) ls (va_rf r :: rest))) : W p l e R s m args below meth c H locs cells slots Q (F0 m pc ls (va_rf r :: rest)) := by
  obtain ⟨hx, hb, hml, hown, hts, hK, hrest⟩ := id Z
  obtain ⟨⟨T, hc⟩, hcl⟩ := hv
  cases r with
  | none => exact lv_castN hx hb hd (kk hq)
  | some a =>
    have hq : obj h (some a) ci (fun _ _ _ => K) = some y := hq
    obtain ⟨a', I, F, e1, he, hq⟩ := obj_inv hq
    cases e1
    exact va_castS hx hb hown (hts _ hcl) (hK.1 ci _ hc).2 (recv_ok Z hR he hc) hd (kk hq)
def ar1 : Nat → List Value → List (Nat × Value)
  | _, [] => []
  | i, v :: vs => (i, v) :: ar1 (i + 1) vs
theorem ar1_eq : ∀ (av : List Value) (i : Nat), (∀ v ∈ av, v.category = 1) → lv_args i av = ar1 i av ∧ (lg_sl av).length = av.length ∧ ∀ q ∈ ar1 i av, q.2.category = 1
  | [], i, _ => ⟨rfl, rfl, fun q h => by cases h⟩
  | v :: vs, i, h => by
    have hv := h v List.mem_cons_self
    obtain ⟨e1, e2, e3⟩ := ar1_eq vs (i + 1) (fun w hw => h w (List.mem_cons_of_mem _ hw))
    have h2 : ¬ v.category = 2 := by omega
    refine ⟨?_, ?_, fun q hq => ?_⟩
    · simp only [lv_args, if_neg h2, e1, ar1]
    · have : lg_sl (v :: vs) = .val v :: lg_sl vs := by simp [lg_sl, h2]
      rw [this, List.length_cons, e2, List.length_cons]
    · rcases List.mem_cons.mp hq with z | z
      · rw [z]; exact hv
      · exact e3 q z
theorem xMet {yy : MethodName} {maxL mc ms : Nat} {ret : Option FieldType} {rm : Room} {av : List Value} {v : Option Value} {h1 : Hp} (hy : plainName yy.cls = true) (hsl : av.length ≤ maxL) (hcat : ∀ v ∈ av, v.category = 1)
    (body : ∀ (p : Program) (e : Env) (s : State) (m : MethodId) (below : List Frame) (meth : Method) (c : Code) (ls : Array Slot), ZZ p s m av.toArray c cc yy.cls maxL G → meth.sig.returnType = ret → meth.locks = false → meth.name = yy.name → Rep G h s.heap → va_S (AA G) s.heap s.heap [] → LV ls maxL (ar1 0 av) →
      W p l e rm s m av.toArray below meth c s.heap [] 0 0 (MQ below (Qx G v h1) av.toArray s mc ms (AA G)) (F0 m 0 ls [])) : Met l yy (Cond.code yy cc maxL ret :: GT) rm (va_Pc av (Cn G h)) (Qx G v h1) mc ms (AA G) := by
  refine Met.ofW (cc := cc) (maxL := maxL) (ret := ret) hy rfl ?_
  intro p e s m args below meth c s₁ B hml hv
  obtain ⟨rfl, hR, hK, hZ, hN⟩ := hv
  have hts := atoms_spec (ws := Cond.code yy cc maxL ret :: GT) B.pre
  obtain ⟨w1, w2, w3⟩ := ar1_eq av 0 hcat
  have hl := lv_entry av (n := maxL) (by rw [w2]; exact hsl)
  rw [w1] at hl
  rw [lg_entry_eq]
  generalize (lg_sl av ++ List.replicate (maxL - (lg_sl av).length) Slot.unset).toArray = ls at hl ⊢
  exact body p e s m below meth c ls ⟨B.exec, B.bytes, hml, findClass_of_methodNamed B.named, fun w hw => hts w (List.mem_cons_of_mem _ hw), hK, hZ, hN, by rw [hR.1]; exact hR.2.1⟩ B.returns B.notSynchronized (name_of_methodNamed B.named B.method).1 hR va_S.rf ⟨hl, w3⟩
end RC
end
section
theorem ac_I : Cond.arrayClass .int ∈ GT := by decide +kernel
theorem ac_Z : Cond.arrayClass .boolean ∈ GT := by decide +kernel
theorem mx_ok : Cond.static Lib.Math.max.name ∈ GT ∧ Cond.initialized "java/lang/Math" ∈ GT ∧ Cond.code Lib.Math.max.name Lib.Math.max.code 2 (some .int) ∈ GT := ⟨by decide +kernel, by decide +kernel, by decide +kernel⟩
theorem mn_ok : Cond.static Lib.Math.min.name ∈ GT ∧ Cond.code Lib.Math.min.name Lib.Math.min.code 2 (some .int) ∈ GT := ⟨by decide +kernel, by decide +kernel⟩
theorem ob_ok : Cond.instanceMethod objectInit ∈ GT ∧ Cond.code objectInit ⟨#[0xb1]⟩ 1 none ∈ GT := ⟨by decide +kernel, by decide +kernel⟩
theorem gs_ok : Cond.fieldLink RJx4a65c 39 "java/util/ArrayList" "DEFAULTCAPACITY_EMPTY_ELEMENTDATA" "[Ljava/lang/Object;" ∈ GT := by decide +kernel
theorem sw_out {x : Int32} : ∀ (n : Nat), n < 1000 → (∀ j, j < n → ¬ x = Int32.ofNat j) → x.toInt < 0 ∨ (n : Int) - 1 < x.toInt := by
  intro n hn h
  rcases Int.lt_or_le x.toInt 0 with h0 | h0
  · exact Or.inl h0
  · right
    refine Int.not_le.mp (fun h1 => ?_)
    have h2 : x = Int32.ofNat x.toInt.toNat := by
      apply Int32.toInt_inj.mp
      have h3 : (Int32.ofNat x.toInt.toNat).toInt = (x.toInt.toNat : Int) := nI_toInt (by omega)
      rw [h3]
      omega
    exact h x.toInt.toNat (by omega) h2
section RD
variable {p : Program} {l : Launch} {e : Env} {R : Room} {s : State} {m : MethodId} {args : Array Value} {below : List Frame} {meth : Method} {c : Code} {H : Heap} {locs : List Loc} {cells slots : Nat} {Q : State → Prop}
variable {cc : ByteArray} {pc nL : Nat} {ls : Array Slot} {rest : List Value} {own : String} {G : GG} {h : Hp} {α : Type} {y : α} {lv lv' : List (Nat × Value)}
theorem xoi (Z : ZZ p s m args c cc own nL G) (hl : LV ls nL lv) {idx a : Nat} (hk : Cond.methodLink own idx objectInit ∈ GT) (h1 : 1 ≤ R.frames) (h2 : 20 ≤ R.locals) (hd : decode cc pc = .ok (.invokespecial idx, 3))
    (kk : W p l e R s m args below meth c H locs cells slots Q (F0 m (pc + 3) ls [])) : W p l e R s m args below meth c H locs cells slots Q (F0 m pc ls [va_rf (some a)]) := by
  obtain ⟨hx, hb, hml, hown, hts, hrest⟩ := Z
  refine W.objInit hx hb hown (hts _ hk) (hts _ ob_ok.1) (hts _ ob_ok.2) rfl (by rw [hml]; exact hl.sz) (a := a) (rest := []) rfl hd h1 ?_ kk
  show 2 * 0 + 0 + 12 ≤ R.locals
  omega
theorem xmx (Z : ZZ p s m args c cc own nL G) (hl : LV ls nL lv) {idx : Nat} (hk : Cond.methodLink own idx Lib.Math.max.name ∈ GT) (h1 : 1 ≤ R.frames) (h2 : (rest.map fun v => v.category).sum + 13 ≤ R.locals) (h3 : cells ≤ R.cells) (h4 : slots ≤ R.slots) {x z : Int32} (hd : decode cc pc = .ok (.invokestatic idx, 3))
    (kk : W p l e R s m args below meth c H locs cells slots Q (F0 m (pc + 3) ls (.int (if x < z then z else x) :: rest))) : W p l e R s m args below meth c H locs cells slots Q (F0 m pc ls (.int z :: .int x :: rest)) := by
  obtain ⟨hx, hb, hml, hown, hts, hrest⟩ := Z
  exact va_mmax hx hb (by rw [hml]; exact hl.sz.symm) hown (hts _ hk) (hts _ mx_ok.1) (hts _ mx_ok.2.1) (hts _ mx_ok.2.2) h1 h2 h3 h4 hd kk
theorem xmn (Z : ZZ p s m args c cc own nL G) (hl : LV ls nL lv) {idx : Nat} (hk : Cond.methodLink own idx Lib.Math.min.name ∈ GT) (h1 : 1 ≤ R.frames) (h2 : (rest.map fun v => v.category).sum + 13 ≤ R.locals) (h3 : cells ≤ R.cells) (h4 : slots ≤ R.slots) {x z : Int32} (hd : decode cc pc = .ok (.invokestatic idx, 3))
    (kk : W p l e R s m args below meth c H locs cells slots Q (F0 m (pc + 3) ls (.int (if z < x then z else x) :: rest))) : W p l e R s m args below meth c H locs cells slots Q (F0 m pc ls (.int z :: .int x :: rest)) := by
  obtain ⟨hx, hb, hml, hown, hts, hrest⟩ := Z
  exact va_mmin hx hb (by rw [hml]; exact hl.sz.symm) hown (hts _ hk) (hts _ mn_ok.1) (hts _ mx_ok.2.1) (hts _ mn_ok.2) h1 h2 h3 h4 hd kk
theorem xgs (Z : ZZ p s m args c cc RJx4a65c nL G) (hS : va_S (AA G) s.heap H locs) (hd : decode cc pc = .ok (.getstatic 39, 3))
    (kk : W p l e R s m args below meth c H locs cells slots Q (F0 m (pc + 3) ls (va_rf (some G.1.2.1) :: rest))) : W p l e R s m args below meth c H locs cells slots Q (F0 m pc ls rest) := by
  obtain ⟨hx, hb, hml, hown, hts, hK, hZ, hrest⟩ := Z
  exact va_gets hx hb hZ hS hown (hts _ gs_ok) (fun _ z => z) hd kk
end RD
end
section
theorem fl_X0_15 : FL RX0 15 1 11 := ⟨_, TX0, 14, "FreightPaths$Bid", rfl, by decide, by decide +kernel, Or.inl rfl⟩
theorem fl_X0_19 : FL RX0 19 1 12 := ⟨_, TX0, 14, "FreightPaths$Bid", rfl, by decide, by decide +kernel, Or.inl rfl⟩
theorem fl_X0_31 : FL RX0 31 1 2 := ⟨_, TX0, 14, "FreightPaths$Bid", rfl, by decide, by decide +kernel, Or.inl rfl⟩
theorem fl_X0_34 : FL RX0 34 1 3 := ⟨_, TX0, 14, "FreightPaths$Bid", rfl, by decide, by decide +kernel, Or.inl rfl⟩
theorem fl_X0_52 : FL RX0 52 1 10 := ⟨_, TX0, 14, "FreightPaths$Bid", rfl, by decide, by decide +kernel, Or.inl rfl⟩
theorem nf_1_10 : nF 1 10 := fun _ _ _ z => by cases z; rfl
theorem me_X0_way : Cond.instanceMethod yX0_way ∈ GT ∧ Cond.selects RX0 yX0_way yX0_way ∈ GT ∧ Cond.initialized RX0 ∈ GT ∧ Cond.code yX0_way cX0_way 1 (some .int) ∈ GT := ⟨by decide +kernel, by decide +kernel, by decide +kernel, by decide +kernel⟩
theorem cl_X0_56 : VL RX0 56 1 yX0_way cX0_way 1 (some .int) 0 := ⟨⟨TX0, 14, rfl⟩, ⟨by decide +kernel, me_X0_way⟩, by decide, by decide, by decide +kernel⟩
section
variable {p : Program} {l : Launch} {e : Env} {s : State} {m : MethodId} {args : Array Value} {below : List Frame} {meth : Method} {c : Code} {G : GG}
abbrev rm_X0_isWhat : Room := { frames := 0, cells := 0, slots := 0, locals := 0 }
def f_X0_isWhat_32  (h : Hp) : Option (Int32 × Hp) :=
rtZ 0 h
set_option maxHeartbeats 4000000 in
set_option maxRecDepth 100000 in
theorem t_X0_isWhat_32 (Z : ZZ p s m args c cX0_isWhat RX0 4 G) (hr : meth.sig.returnType = (some .boolean)) (hlk : meth.locks = false) (hin : meth.name = "isWhat") {v : Int32} {h1 : Hp} : ∀  (h : Hp) (H : Heap) (locs : List Loc) (ls : Array Slot), f_X0_isWhat_32  h = some (v, h1) → Rep G h H → va_S (AA G) s.heap H locs → LV ls 4 [] → W p l e rm_X0_isWhat s m args below meth c H locs 0 0 (MQ below (Qx G (some (.int v)) h1) args s 0 0 (AA G)) (F0 m 32 ls []) := by
  intro  h H locs ls hq hR hS hl
  have hx := Z.1
  have hb := Z.2.1
  unfold f_X0_isWhat_32 at hq
  refine lv_iconst (v := 0) hx hb dX0_isWhat_32 (by decide) ?_
  exact xrZ hx hb hr hlk hR hS hq (by decide) (by decide) dX0_isWhat_33
def f_X0_isWhat_71 (s0 : Int32) (h : Hp) : Option (Int32 × Hp) :=
rtZ s0 h
set_option maxHeartbeats 4000000 in
set_option maxRecDepth 100000 in
theorem t_X0_isWhat_71 (Z : ZZ p s m args c cX0_isWhat RX0 4 G) (hr : meth.sig.returnType = (some .boolean)) (hlk : meth.locks = false) (hin : meth.name = "isWhat") {v : Int32} {h1 : Hp} : ∀ (s0 : Int32) (h : Hp) (H : Heap) (locs : List Loc) (ls : Array Slot), f_X0_isWhat_71 s0 h = some (v, h1) → Rep G h H → va_S (AA G) s.heap H locs → LV ls 4 [] → W p l e rm_X0_isWhat s m args below meth c H locs 0 0 (MQ below (Qx G (some (.int v)) h1) args s 0 0 (AA G)) (F0 m 71 ls [.int s0]) := by
  intro s0 h H locs ls hq hR hS hl
  have hx := Z.1
  have hb := Z.2.1
  unfold f_X0_isWhat_71 at hq
  exact xrZ hx hb hr hlk hR hS hq (by decide) (by decide) dX0_isWhat_71
def f_X0_isWhat_70  (h : Hp) : Option (Int32 × Hp) :=
f_X0_isWhat_71 0 h
set_option maxHeartbeats 4000000 in
set_option maxRecDepth 100000 in
theorem t_X0_isWhat_70 (Z : ZZ p s m args c cX0_isWhat RX0 4 G) (hr : meth.sig.returnType = (some .boolean)) (hlk : meth.locks = false) (hin : meth.name = "isWhat") {v : Int32} {h1 : Hp} : ∀  (h : Hp) (H : Heap) (locs : List Loc) (ls : Array Slot), f_X0_isWhat_70  h = some (v, h1) → Rep G h H → va_S (AA G) s.heap H locs → LV ls 4 [] → W p l e rm_X0_isWhat s m args below meth c H locs 0 0 (MQ below (Qx G (some (.int v)) h1) args s 0 0 (AA G)) (F0 m 70 ls []) := by
  intro  h H locs ls hq hR hS hl
  have hx := Z.1
  have hb := Z.2.1
  unfold f_X0_isWhat_70 at hq
  refine lv_iconst (v := 0) hx hb dX0_isWhat_70 (by decide) ?_
  exact t_X0_isWhat_71 Z hr hlk hin 0 h H locs ls hq hR hS (hl.sub [] rfl)
def f_X0_isWhat (a0 : Int32) (a1 : Int32) (h : Hp) : Option (Int32 × Hp) :=
(if a0 < 0 then
f_X0_isWhat_32  h
else
(if 6 ≤ (a0 / 10000) then
f_X0_isWhat_32  h
else
(if 2 ≤ ((a0 / 10) - (a0 / 10) / 10 * 10) then
f_X0_isWhat_32  h
else
(if (a0 - a0 / 10 * 10) = 0 then
(if a1 ≤ ((a0 / 1000) - (a0 / 1000) / 10 * 10) then
f_X0_isWhat_70  h
else
(if a1 ≤ ((a0 / 100) - (a0 / 100) / 10 * 10) then
f_X0_isWhat_70  h
else
(if ((a0 / 1000) - (a0 / 1000) / 10 * 10) = ((a0 / 100) - (a0 / 100) / 10 * 10) then
f_X0_isWhat_70  h
else
f_X0_isWhat_71 1 h)))
else
f_X0_isWhat_32  h))))
set_option maxHeartbeats 4000000 in
set_option maxRecDepth 100000 in
theorem c_X0_isWhat (l : Launch) {G : GG} (a0 : Int32) (a1 : Int32) (h : Hp) (v : Int32) (h1 : Hp) (hq : f_X0_isWhat a0 a1 h = some (v, h1)) : Met l yX0_isWhat (Cond.code yX0_isWhat cX0_isWhat 4 (some .boolean) :: GT) rm_X0_isWhat (va_Pc [.int a0, .int a1] (Cn G h)) (Qx G (some (.int v)) h1) 0 0 (AA G) := by
  refine xMet (cc := cX0_isWhat) (by decide) (Nat.le_of_ble_eq_true rfl) (List.forall_mem_cons.mpr ⟨rfl, (List.forall_mem_cons.mpr ⟨rfl, (fun _ z => by cases z)⟩)⟩) ?_
  intro p e s m below meth c ls Z hr hlk hin hR hS hl
  have hx := Z.1
  have hb := Z.2.1
  have hl : LV ls 4 [(0, .int a0), (1, .int a1)] := hl
  unfold f_X0_isWhat at hq
  refine xiln hx hb hl (x := a0) 0 rfl dX0_isWhat_0 ?_
  refine xzLt hx hb hq (tgt := 32) dX0_isWhat_1 (by decide) (fun hq => ?_) (fun hq => ?_)
  · exact t_X0_isWhat_32 Z hr hlk hin  h _ _ ls hq hR hS (hl.sub [] rfl)
  refine xiln hx hb hl (x := a0) 0 rfl dX0_isWhat_4 ?_
  refine lv_sipush (v := 10000) hx hb dX0_isWhat_5 (by decide) ?_
  refine lv_idiv hx hb dX0_isWhat_8 (by decide) ?_
  refine lv_bipush (v := 6) hx hb dX0_isWhat_9 (by decide) ?_
  refine xcGe hx hb hq (tgt := 32) dX0_isWhat_11 (by decide) (fun hq => ?_) (fun hq => ?_)
  · exact t_X0_isWhat_32 Z hr hlk hin  h _ _ ls hq hR hS (hl.sub [] rfl)
  refine xiln hx hb hl (x := a0) 0 rfl dX0_isWhat_14 ?_
  refine lv_bipush (v := 10) hx hb dX0_isWhat_15 (by decide) ?_
  refine lv_idiv hx hb dX0_isWhat_17 (by decide) ?_
  refine lv_bipush (v := 10) hx hb dX0_isWhat_18 (by decide) ?_
  refine lv_irem hx hb dX0_isWhat_20 (by decide) ?_
  refine lv_iconst (v := 2) hx hb dX0_isWhat_21 (by decide) ?_
  refine xcGe hx hb hq (tgt := 32) dX0_isWhat_22 (by decide) (fun hq => ?_) (fun hq => ?_)
  · exact t_X0_isWhat_32 Z hr hlk hin  h _ _ ls hq hR hS (hl.sub [] rfl)
  refine xiln hx hb hl (x := a0) 0 rfl dX0_isWhat_25 ?_
  refine lv_bipush (v := 10) hx hb dX0_isWhat_26 (by decide) ?_
  refine lv_irem hx hb dX0_isWhat_28 (by decide) ?_
  refine xzEq hx hb hq (tgt := 34) dX0_isWhat_29 (by decide) (fun hq => ?_) (fun hq => ?_)
  · refine xiln hx hb hl (x := a0) 0 rfl dX0_isWhat_34 ?_
    refine lv_sipush (v := 1000) hx hb dX0_isWhat_35 (by decide) ?_
    refine lv_idiv hx hb dX0_isWhat_38 (by decide) ?_
    refine lv_bipush (v := 10) hx hb dX0_isWhat_39 (by decide) ?_
    refine lv_irem hx hb dX0_isWhat_41 (by decide) ?_
    refine xisn hx hb hl (x := ((a0 / 1000) - (a0 / 1000) / 10 * 10)) (lv' := [(2, .int ((a0 / 1000) - (a0 / 1000) / 10 * 10)), (0, .int a0), (1, .int a1)]) (by decide) dX0_isWhat_42 rfl (fun ls hl => ?_)
    refine xiln hx hb hl (x := a0) 1 rfl dX0_isWhat_43 ?_
    refine lv_bipush (v := 100) hx hb dX0_isWhat_44 (by decide) ?_
    refine lv_idiv hx hb dX0_isWhat_46 (by decide) ?_
    refine lv_bipush (v := 10) hx hb dX0_isWhat_47 (by decide) ?_
    refine lv_irem hx hb dX0_isWhat_49 (by decide) ?_
    refine xisn hx hb hl (x := ((a0 / 100) - (a0 / 100) / 10 * 10)) (lv' := [(3, .int ((a0 / 100) - (a0 / 100) / 10 * 10)), (2, .int ((a0 / 1000) - (a0 / 1000) / 10 * 10)), (0, .int a0), (1, .int a1)]) (by decide) dX0_isWhat_50 rfl (fun ls hl => ?_)
    refine xiln hx hb hl (x := ((a0 / 1000) - (a0 / 1000) / 10 * 10)) 1 rfl dX0_isWhat_51 ?_
    refine xiln hx hb hl (x := a1) 3 rfl dX0_isWhat_52 ?_
    refine xcGe hx hb hq (tgt := 70) dX0_isWhat_53 (by decide) (fun hq => ?_) (fun hq => ?_)
    · exact t_X0_isWhat_70 Z hr hlk hin  h _ _ ls hq hR hS (hl.sub [] rfl)
    refine xiln hx hb hl (x := ((a0 / 100) - (a0 / 100) / 10 * 10)) 0 rfl dX0_isWhat_56 ?_
    refine xiln hx hb hl (x := a1) 3 rfl dX0_isWhat_57 ?_
    refine xcGe hx hb hq (tgt := 70) dX0_isWhat_58 (by decide) (fun hq => ?_) (fun hq => ?_)
    · exact t_X0_isWhat_70 Z hr hlk hin  h _ _ ls hq hR hS (hl.sub [] rfl)
    refine xiln hx hb hl (x := ((a0 / 1000) - (a0 / 1000) / 10 * 10)) 1 rfl dX0_isWhat_61 ?_
    refine xiln hx hb hl (x := ((a0 / 100) - (a0 / 100) / 10 * 10)) 0 rfl dX0_isWhat_62 ?_
    refine xcEq hx hb hq (tgt := 70) dX0_isWhat_63 (by decide) (fun hq => ?_) (fun hq => ?_)
    · exact t_X0_isWhat_70 Z hr hlk hin  h _ _ ls hq hR hS (hl.sub [] rfl)
    refine lv_iconst (v := 1) hx hb dX0_isWhat_66 (by decide) ?_
    refine lv_goto (tgt := 71) hx hb dX0_isWhat_67 (by decide) ?_
    exact t_X0_isWhat_71 Z hr hlk hin 1 h _ _ ls hq hR hS (hl.sub [] rfl)
  exact t_X0_isWhat_32 Z hr hlk hin  h _ _ ls hq hR hS (hl.sub [] rfl)
abbrev rm_X0_isWhen : Room := { frames := 0, cells := 0, slots := 0, locals := 0 }
def f_X0_isWhen_31 (s0 : Int32) (h : Hp) : Option (Int32 × Hp) :=
rtZ s0 h
set_option maxHeartbeats 4000000 in
set_option maxRecDepth 100000 in
theorem t_X0_isWhen_31 (Z : ZZ p s m args c cX0_isWhen RX0 1 G) (hr : meth.sig.returnType = (some .boolean)) (hlk : meth.locks = false) (hin : meth.name = "isWhen") {v : Int32} {h1 : Hp} : ∀ (s0 : Int32) (h : Hp) (H : Heap) (locs : List Loc) (ls : Array Slot), f_X0_isWhen_31 s0 h = some (v, h1) → Rep G h H → va_S (AA G) s.heap H locs → LV ls 1 [] → W p l e rm_X0_isWhen s m args below meth c H locs 0 0 (MQ below (Qx G (some (.int v)) h1) args s 0 0 (AA G)) (F0 m 31 ls [.int s0]) := by
  intro s0 h H locs ls hq hR hS hl
  have hx := Z.1
  have hb := Z.2.1
  unfold f_X0_isWhen_31 at hq
  exact xrZ hx hb hr hlk hR hS hq (by decide) (by decide) dX0_isWhen_31
def f_X0_isWhen_30  (h : Hp) : Option (Int32 × Hp) :=
f_X0_isWhen_31 0 h
set_option maxHeartbeats 4000000 in
set_option maxRecDepth 100000 in
theorem t_X0_isWhen_30 (Z : ZZ p s m args c cX0_isWhen RX0 1 G) (hr : meth.sig.returnType = (some .boolean)) (hlk : meth.locks = false) (hin : meth.name = "isWhen") {v : Int32} {h1 : Hp} : ∀  (h : Hp) (H : Heap) (locs : List Loc) (ls : Array Slot), f_X0_isWhen_30  h = some (v, h1) → Rep G h H → va_S (AA G) s.heap H locs → LV ls 1 [] → W p l e rm_X0_isWhen s m args below meth c H locs 0 0 (MQ below (Qx G (some (.int v)) h1) args s 0 0 (AA G)) (F0 m 30 ls []) := by
  intro  h H locs ls hq hR hS hl
  have hx := Z.1
  have hb := Z.2.1
  unfold f_X0_isWhen_30 at hq
  refine lv_iconst (v := 0) hx hb dX0_isWhen_30 (by decide) ?_
  exact t_X0_isWhen_31 Z hr hlk hin 0 h H locs ls hq hR hS (hl.sub [] rfl)
def f_X0_isWhen (a0 : Int32) (h : Hp) : Option (Int32 × Hp) :=
(if a0 < 0 then
f_X0_isWhen_30  h
else
(if 240 ≤ (a0 / 1000) then
f_X0_isWhen_30  h
else
(if 240 ≤ (a0 - a0 / 1000 * 1000) then
f_X0_isWhen_30  h
else
f_X0_isWhen_31 1 h)))
set_option maxHeartbeats 4000000 in
set_option maxRecDepth 100000 in
theorem c_X0_isWhen (l : Launch) {G : GG} (a0 : Int32) (h : Hp) (v : Int32) (h1 : Hp) (hq : f_X0_isWhen a0 h = some (v, h1)) : Met l yX0_isWhen (Cond.code yX0_isWhen cX0_isWhen 1 (some .boolean) :: GT) rm_X0_isWhen (va_Pc [.int a0] (Cn G h)) (Qx G (some (.int v)) h1) 0 0 (AA G) := by
  refine xMet (cc := cX0_isWhen) (by decide) (Nat.le_of_ble_eq_true rfl) (List.forall_mem_cons.mpr ⟨rfl, (fun _ z => by cases z)⟩) ?_
  intro p e s m below meth c ls Z hr hlk hin hR hS hl
  have hx := Z.1
  have hb := Z.2.1
  have hl : LV ls 1 [(0, .int a0)] := hl
  unfold f_X0_isWhen at hq
  refine xiln hx hb hl (x := a0) 0 rfl dX0_isWhen_0 ?_
  refine xzLt hx hb hq (tgt := 30) dX0_isWhen_1 (by decide) (fun hq => ?_) (fun hq => ?_)
  · exact t_X0_isWhen_30 Z hr hlk hin  h _ _ ls hq hR hS (hl.sub [] rfl)
  refine xiln hx hb hl (x := a0) 0 rfl dX0_isWhen_4 ?_
  refine lv_sipush (v := 1000) hx hb dX0_isWhen_5 (by decide) ?_
  refine lv_idiv hx hb dX0_isWhen_8 (by decide) ?_
  refine lv_sipush (v := 240) hx hb dX0_isWhen_9 (by decide) ?_
  refine xcGe hx hb hq (tgt := 30) dX0_isWhen_12 (by decide) (fun hq => ?_) (fun hq => ?_)
  · exact t_X0_isWhen_30 Z hr hlk hin  h _ _ ls hq hR hS (hl.sub [] rfl)
  refine xiln hx hb hl (x := a0) 0 rfl dX0_isWhen_15 ?_
  refine lv_sipush (v := 1000) hx hb dX0_isWhen_16 (by decide) ?_
  refine lv_irem hx hb dX0_isWhen_19 (by decide) ?_
  refine lv_sipush (v := 240) hx hb dX0_isWhen_20 (by decide) ?_
  refine xcGe hx hb hq (tgt := 30) dX0_isWhen_23 (by decide) (fun hq => ?_) (fun hq => ?_)
  · exact t_X0_isWhen_30 Z hr hlk hin  h _ _ ls hq hR hS (hl.sub [] rfl)
  refine lv_iconst (v := 1) hx hb dX0_isWhen_26 (by decide) ?_
  refine lv_goto (tgt := 31) hx hb dX0_isWhen_27 (by decide) ?_
  exact t_X0_isWhen_31 Z hr hlk hin 1 h _ _ ls hq hR hS (hl.sub [] rfl)
abbrev rm_X0_takePath : Room := { frames := 0, cells := 0, slots := 0, locals := 0 }
def fb_X0_takePath_2 (k2 : Option Nat × Option Nat × Option Nat × Int32 × Hp → Option (Unit × Hp)) (l0 : Option Nat) (l1 : Option Nat) (l2 : Option Nat) (l3 : Int32) (h : Hp) : Option (Unit × Hp) :=
(if 8 ≤ l3 then
pZ h l0 1 10 1 (fun h =>
rtV h)
else
gR h l0 1 11 (fun x9 =>
ldI h l1 l3 (fun x15 =>
stI h x9 l3 x15 (fun h =>
gR h l0 1 12 (fun x18 =>
ldI h l2 l3 (fun x24 =>
stI h x18 l3 x24 (fun h =>
k2 (l0, l1, l2, (l3 + 1), h))))))))
set_option maxHeartbeats 4000000 in
set_option maxRecDepth 100000 in
theorem tb_X0_takePath_2 (Z : ZZ p s m args c cX0_takePath RX0 4 G) (hr : meth.sig.returnType = none) (hlk : meth.locks = false) (hin : meth.name = "takePath") {v : Unit} {h1 : Hp} {k2 : Option Nat × Option Nat × Option Nat × Int32 × Hp → Option (Unit × Hp)} (hk2 : ∀ u : Option Nat × Option Nat × Option Nat × Int32 × Hp, k2 u = some (v, h1) → ∀ (H : Heap) (locs : List Loc) (ls : Array Slot), Rep G u.2.2.2.2 H → va_S (AA G) s.heap H locs → LV ls 4 [(0, va_rf u.1), (1, va_rf u.2.1), (2, va_rf u.2.2.1), (3, .int u.2.2.2.1)] → W p l e rm_X0_takePath s m args below meth c H locs 0 0 (MQ below (Qx G none h1) args s 0 0 (AA G)) (F0 m 2 ls [])) : ∀ (l0 : Option Nat) (l1 : Option Nat) (l2 : Option Nat) (l3 : Int32) (h : Hp) (H : Heap) (locs : List Loc) (ls : Array Slot), fb_X0_takePath_2 k2 l0 l1 l2 l3 h = some (v, h1) → Rep G h H → va_S (AA G) s.heap H locs → LV ls 4 [(0, va_rf l0), (1, va_rf l1), (2, va_rf l2), (3, .int l3)] → W p l e rm_X0_takePath s m args below meth c H locs 0 0 (MQ below (Qx G none h1) args s 0 0 (AA G)) (F0 m 2 ls []) := by
  intro l0 l1 l2 l3 h H locs ls hq hR hS hl
  have hx := Z.1
  have hb := Z.2.1
  unfold fb_X0_takePath_2 at hq
  refine xiln hx hb hl (x := l3) 3 rfl dX0_takePath_2 ?_
  refine lv_bipush (v := 8) hx hb dX0_takePath_3 (by decide) ?_
  refine xcGe hx hb hq (tgt := 32) dX0_takePath_5 (by decide) (fun hq => ?_) (fun hq => ?_)
  · refine xaln hx hb hl (x := l0) 0 rfl dX0_takePath_32 ?_
    refine lv_iconst (v := 1) hx hb dX0_takePath_33 (by decide) ?_
    refine xpZ Z hR hS hq fl_X0_52 rfl (Or.inl nf_1_10) dX0_takePath_34 (fun h H locs hq hR hS => ?_)
    exact xrV hx hb hr hlk hR hS hq (by decide) (by decide) dX0_takePath_37
  refine xaln hx hb hl (x := l0) 0 rfl dX0_takePath_8 ?_
  refine xgR Z hR hq fl_X0_15 rfl dX0_takePath_9 (fun x9 hq => ?_)
  refine xiln hx hb hl (x := l3) 3 rfl dX0_takePath_12 ?_
  refine xaln hx hb hl (x := l1) 1 rfl dX0_takePath_13 ?_
  refine xiln hx hb hl (x := l3) 3 rfl dX0_takePath_14 ?_
  refine xaI Z hR hq dX0_takePath_15 (fun x15 hq => ?_)
  refine xsI Z hR hS hq dX0_takePath_16 (fun h H locs hq hR hS => ?_)
  refine xaln hx hb hl (x := l0) 0 rfl dX0_takePath_17 ?_
  refine xgR Z hR hq fl_X0_19 rfl dX0_takePath_18 (fun x18 hq => ?_)
  refine xiln hx hb hl (x := l3) 3 rfl dX0_takePath_21 ?_
  refine xaln hx hb hl (x := l2) 2 rfl dX0_takePath_22 ?_
  refine xiln hx hb hl (x := l3) 3 rfl dX0_takePath_23 ?_
  refine xaI Z hR hq dX0_takePath_24 (fun x24 hq => ?_)
  refine xsI Z hR hS hq dX0_takePath_25 (fun h H locs hq hR hS => ?_)
  refine xinc hx hb hl (x := l3) (v := (l3 + 1)) (lv' := [(3, .int (l3 + 1)), (0, va_rf l0), (1, va_rf l1), (2, va_rf l2)]) 3 rfl rfl (by decide) dX0_takePath_26 rfl (fun ls hl => ?_)
  refine lv_goto (tgt := 2) hx hb dX0_takePath_29 (by decide) ?_
  exact hk2 (l0, l1, l2, (l3 + 1), h) hq H locs ls hR hS (hl.sub [1, 2, 3, 0] rfl)
def f_X0_takePath_2 (l0 : Option Nat) (l1 : Option Nat) (l2 : Option Nat) (l3 : Int32) (h : Hp) : Option (Unit × Hp) :=
  lp (fun (k2 : Option Nat × Option Nat × Option Nat × Int32 × Hp → Option (Unit × Hp)) (u : Option Nat × Option Nat × Option Nat × Int32 × Hp) => fb_X0_takePath_2 k2 u.1 u.2.1 u.2.2.1 u.2.2.2.1 u.2.2.2.2) FU (l0, l1, l2, l3, h)
theorem t_X0_takePath_2 (Z : ZZ p s m args c cX0_takePath RX0 4 G) (hr : meth.sig.returnType = none) (hlk : meth.locks = false) (hin : meth.name = "takePath") {v : Unit} {h1 : Hp} : ∀ (l0 : Option Nat) (l1 : Option Nat) (l2 : Option Nat) (l3 : Int32) (h : Hp) (H : Heap) (locs : List Loc) (ls : Array Slot), f_X0_takePath_2 l0 l1 l2 l3 h = some (v, h1) → Rep G h H → va_S (AA G) s.heap H locs → LV ls 4 [(0, va_rf l0), (1, va_rf l1), (2, va_rf l2), (3, .int l3)] → W p l e rm_X0_takePath s m args below meth c H locs 0 0 (MQ below (Qx G none h1) args s 0 0 (AA G)) (F0 m 2 ls []) := by
  intro l0 l1 l2 l3 h H locs ls hq hR hS hl
  exact lp_ind (P := fun u : Option Nat × Option Nat × Option Nat × Int32 × Hp => ∀ (H : Heap) (locs : List Loc) (ls : Array Slot), Rep G u.2.2.2.2 H → va_S (AA G) s.heap H locs → LV ls 4 [(0, va_rf u.1), (1, va_rf u.2.1), (2, va_rf u.2.2.1), (3, .int u.2.2.2.1)] → W p l e rm_X0_takePath s m args below meth c H locs 0 0 (MQ below (Qx G none h1) args s 0 0 (AA G)) (F0 m 2 ls [])) (fun k hk u hq H locs ls hR hS hl => tb_X0_takePath_2 Z hr hlk hin hk u.1 u.2.1 u.2.2.1 u.2.2.2.1 u.2.2.2.2 H locs ls hq hR hS hl) FU (l0, l1, l2, l3, h) hq H locs ls hR hS hl
def f_X0_takePath (this : Nat) (a0 : Option Nat) (a1 : Option Nat) (h : Hp) : Option (Unit × Hp) :=
f_X0_takePath_2 (some this) a0 a1 0 h
set_option maxHeartbeats 4000000 in
set_option maxRecDepth 100000 in
theorem c_X0_takePath (l : Launch) {G : GG} (this : Nat) (a0 : Option Nat) (a1 : Option Nat) (h : Hp) (v : Unit) (h1 : Hp) (hq : f_X0_takePath this a0 a1 h = some (v, h1)) : Met l yX0_takePath (Cond.code yX0_takePath cX0_takePath 4 none :: GT) rm_X0_takePath (va_Pc [.ref this, va_rf a0, va_rf a1] (Cn G h)) (Qx G none h1) 0 0 (AA G) := by
  refine xMet (cc := cX0_takePath) (by decide) (Nat.le_of_ble_eq_true rfl) (List.forall_mem_cons.mpr ⟨rfl, (List.forall_mem_cons.mpr ⟨(rf_cat a0), (List.forall_mem_cons.mpr ⟨(rf_cat a1), (fun _ z => by cases z)⟩)⟩)⟩) ?_
  intro p e s m below meth c ls Z hr hlk hin hR hS hl
  have hx := Z.1
  have hb := Z.2.1
  have hl : LV ls 4 [(0, va_rf (some this)), (1, va_rf a0), (2, va_rf a1)] := hl
  unfold f_X0_takePath at hq
  refine lv_iconst (v := 0) hx hb dX0_takePath_0 (by decide) ?_
  refine xisn hx hb hl (x := 0) (lv' := [(3, .int 0), (0, va_rf (some this)), (1, va_rf a0), (2, va_rf a1)]) (by decide) dX0_takePath_1 rfl (fun ls hl => ?_)
  exact t_X0_takePath_2 Z hr hlk hin (some this) a0 a1 0 h _ _ ls hq hR hS (hl.sub [1, 2, 3, 0] rfl)
abbrev rm_X0_steps : Room := { frames := 0, cells := 0, slots := 0, locals := 0 }
def f_X0_steps_32 (s0 : Int32) (h : Hp) : Option (Int32 × Hp) :=
rtI s0 h
set_option maxHeartbeats 4000000 in
set_option maxRecDepth 100000 in
theorem t_X0_steps_32 (Z : ZZ p s m args c cX0_steps RX0 1 G) (hr : meth.sig.returnType = (some .int)) (hlk : meth.locks = false) (hin : meth.name = "steps") {v : Int32} {h1 : Hp} : ∀ (s0 : Int32) (h : Hp) (H : Heap) (locs : List Loc) (ls : Array Slot), f_X0_steps_32 s0 h = some (v, h1) → Rep G h H → va_S (AA G) s.heap H locs → LV ls 1 [] → W p l e rm_X0_steps s m args below meth c H locs 0 0 (MQ below (Qx G (some (.int v)) h1) args s 0 0 (AA G)) (F0 m 32 ls [.int s0]) := by
  intro s0 h H locs ls hq hR hS hl
  have hx := Z.1
  have hb := Z.2.1
  unfold f_X0_steps_32 at hq
  exact xrI hx hb hr hlk hR hS hq (by decide) (by decide) dX0_steps_32
def f_X0_steps (this : Nat) (h : Hp) : Option (Int32 × Hp) :=
gI h (some this) 1 3 (fun x1 =>
gI h (some this) 1 2 (fun x5 =>
(if x1 ≤ x5 then
gI h (some this) 1 2 (fun x24 =>
gI h (some this) 1 3 (fun x28 =>
f_X0_steps_32 (x24 - x28) h))
else
gI h (some this) 1 3 (fun x12 =>
gI h (some this) 1 2 (fun x16 =>
f_X0_steps_32 (x12 - x16) h)))))
set_option maxHeartbeats 4000000 in
set_option maxRecDepth 100000 in
theorem c_X0_steps (l : Launch) {G : GG} (this : Nat) (h : Hp) (v : Int32) (h1 : Hp) (hq : f_X0_steps this h = some (v, h1)) : Met l yX0_steps (Cond.code yX0_steps cX0_steps 1 (some .int) :: GT) rm_X0_steps (va_Pc [.ref this] (Cn G h)) (Qx G (some (.int v)) h1) 0 0 (AA G) := by
  refine xMet (cc := cX0_steps) (by decide) (Nat.le_of_ble_eq_true rfl) (List.forall_mem_cons.mpr ⟨rfl, (fun _ z => by cases z)⟩) ?_
  intro p e s m below meth c ls Z hr hlk hin hR hS hl
  have hx := Z.1
  have hb := Z.2.1
  have hl : LV ls 1 [(0, va_rf (some this))] := hl
  unfold f_X0_steps at hq
  refine xaln hx hb hl (x := (some this)) 0 rfl dX0_steps_0 ?_
  refine xgI Z hR hq fl_X0_34 rfl dX0_steps_1 (fun x1 hq => ?_)
  refine xaln hx hb hl (x := (some this)) 0 rfl dX0_steps_4 ?_
  refine xgI Z hR hq fl_X0_31 rfl dX0_steps_5 (fun x5 hq => ?_)
  refine xcLe hx hb hq (tgt := 23) dX0_steps_8 (by decide) (fun hq => ?_) (fun hq => ?_)
  · refine xaln hx hb hl (x := (some this)) 0 rfl dX0_steps_23 ?_
    refine xgI Z hR hq fl_X0_31 rfl dX0_steps_24 (fun x24 hq => ?_)
    refine xaln hx hb hl (x := (some this)) 0 rfl dX0_steps_27 ?_
    refine xgI Z hR hq fl_X0_34 rfl dX0_steps_28 (fun x28 hq => ?_)
    refine lv_isub hx hb dX0_steps_31 ?_
    exact t_X0_steps_32 Z hr hlk hin (x24 - x28) h _ _ ls hq hR hS (hl.sub [] rfl)
  refine xaln hx hb hl (x := (some this)) 0 rfl dX0_steps_11 ?_
  refine xgI Z hR hq fl_X0_34 rfl dX0_steps_12 (fun x12 hq => ?_)
  refine xaln hx hb hl (x := (some this)) 0 rfl dX0_steps_15 ?_
  refine xgI Z hR hq fl_X0_31 rfl dX0_steps_16 (fun x16 hq => ?_)
  refine lv_isub hx hb dX0_steps_19 ?_
  refine lv_goto (tgt := 32) hx hb dX0_steps_20 (by decide) ?_
  exact t_X0_steps_32 Z hr hlk hin (x12 - x16) h _ _ ls hq hR hS (hl.sub [] rfl)
abbrev rm_X0_way : Room := { frames := 0, cells := 0, slots := 0, locals := 0 }
def f_X0_way_16 (s0 : Int32) (h : Hp) : Option (Int32 × Hp) :=
rtI s0 h
set_option maxHeartbeats 4000000 in
set_option maxRecDepth 100000 in
theorem t_X0_way_16 (Z : ZZ p s m args c cX0_way RX0 1 G) (hr : meth.sig.returnType = (some .int)) (hlk : meth.locks = false) (hin : meth.name = "way") {v : Int32} {h1 : Hp} : ∀ (s0 : Int32) (h : Hp) (H : Heap) (locs : List Loc) (ls : Array Slot), f_X0_way_16 s0 h = some (v, h1) → Rep G h H → va_S (AA G) s.heap H locs → LV ls 1 [] → W p l e rm_X0_way s m args below meth c H locs 0 0 (MQ below (Qx G (some (.int v)) h1) args s 0 0 (AA G)) (F0 m 16 ls [.int s0]) := by
  intro s0 h H locs ls hq hR hS hl
  have hx := Z.1
  have hb := Z.2.1
  unfold f_X0_way_16 at hq
  exact xrI hx hb hr hlk hR hS hq (by decide) (by decide) dX0_way_16
def f_X0_way (this : Nat) (h : Hp) : Option (Int32 × Hp) :=
gI h (some this) 1 3 (fun x1 =>
gI h (some this) 1 2 (fun x5 =>
(if x1 ≤ x5 then
f_X0_way_16 (-1) h
else
f_X0_way_16 1 h)))
set_option maxHeartbeats 4000000 in
set_option maxRecDepth 100000 in
theorem c_X0_way (l : Launch) {G : GG} (this : Nat) (h : Hp) (v : Int32) (h1 : Hp) (hq : f_X0_way this h = some (v, h1)) : Met l yX0_way (Cond.code yX0_way cX0_way 1 (some .int) :: GT) rm_X0_way (va_Pc [.ref this] (Cn G h)) (Qx G (some (.int v)) h1) 0 0 (AA G) := by
  refine xMet (cc := cX0_way) (by decide) (Nat.le_of_ble_eq_true rfl) (List.forall_mem_cons.mpr ⟨rfl, (fun _ z => by cases z)⟩) ?_
  intro p e s m below meth c ls Z hr hlk hin hR hS hl
  have hx := Z.1
  have hb := Z.2.1
  have hl : LV ls 1 [(0, va_rf (some this))] := hl
  unfold f_X0_way at hq
  refine xaln hx hb hl (x := (some this)) 0 rfl dX0_way_0 ?_
  refine xgI Z hR hq fl_X0_34 rfl dX0_way_1 (fun x1 hq => ?_)
  refine xaln hx hb hl (x := (some this)) 0 rfl dX0_way_4 ?_
  refine xgI Z hR hq fl_X0_31 rfl dX0_way_5 (fun x5 hq => ?_)
  refine xcLe hx hb hq (tgt := 15) dX0_way_8 (by decide) (fun hq => ?_) (fun hq => ?_)
  · refine lv_iconst (v := (-1)) hx hb dX0_way_15 (by decide) ?_
    exact t_X0_way_16 Z hr hlk hin (-1) h _ _ ls hq hR hS (hl.sub [] rfl)
  refine lv_iconst (v := 1) hx hb dX0_way_11 (by decide) ?_
  refine lv_goto (tgt := 16) hx hb dX0_way_12 (by decide) ?_
  exact t_X0_way_16 Z hr hlk hin 1 h _ _ ls hq hR hS (hl.sub [] rfl)
abbrev rm_X0_stationAt : Room := { frames := 1, cells := 0, slots := 0, locals := 20 }
def f_X0_stationAt (this : Nat) (a0 : Int32) (h : Hp) : Option (Int32 × Hp) :=
gI h (some this) 1 2 (fun x1 =>
rcv h (some this) 1 (fun b5 => bd (f_X0_way b5 h) (fun x5 h =>
rtI (x1 + (x5 * a0)) h)))
set_option maxHeartbeats 4000000 in
set_option maxRecDepth 100000 in
theorem c_X0_stationAt (l : Launch) {G : GG} (this : Nat) (a0 : Int32) (h : Hp) (v : Int32) (h1 : Hp) (hq : f_X0_stationAt this a0 h = some (v, h1)) : Met l yX0_stationAt (Cond.code yX0_stationAt cX0_stationAt 2 (some .int) :: GT) rm_X0_stationAt (va_Pc [.ref this, .int a0] (Cn G h)) (Qx G (some (.int v)) h1) 0 0 (AA G) := by
  refine xMet (cc := cX0_stationAt) (by decide) (Nat.le_of_ble_eq_true rfl) (List.forall_mem_cons.mpr ⟨rfl, (List.forall_mem_cons.mpr ⟨rfl, (fun _ z => by cases z)⟩)⟩) ?_
  intro p e s m below meth c ls Z hr hlk hin hR hS hl
  have hx := Z.1
  have hb := Z.2.1
  have hl : LV ls 2 [(0, va_rf (some this)), (1, .int a0)] := hl
  unfold f_X0_stationAt at hq
  refine xaln hx hb hl (x := (some this)) 0 rfl dX0_stationAt_0 ?_
  refine xgI Z hR hq fl_X0_31 rfl dX0_stationAt_1 (fun x1 hq => ?_)
  refine xaln hx hb hl (x := (some this)) 0 rfl dX0_stationAt_4 ?_
  refine xcV Z hR hS hl (As := []) hq cl_X0_56 (fun b x h1 hc => c_X0_way l b h x h1 hc) ⟨⟨rfl, rfl⟩, by decide, by decide⟩ rfl rfl (by simp [rf_cat, Value.category]) dX0_stationAt_5 (by decide) (fun x5 h H locs hq hR hS => ?_)
  refine xiln hx hb hl (x := a0) 1 rfl dX0_stationAt_8 ?_
  refine lv_imul hx hb dX0_stationAt_9 ?_
  refine lv_iadd hx hb dX0_stationAt_10 ?_
  exact xrI hx hb hr hlk hR hS hq (by decide) (by decide) dX0_stationAt_11
abbrev rm_X0_sectionAt : Room := { frames := 0, cells := 0, slots := 0, locals := 0 }
def f_X0_sectionAt_28 (s0 : Int32) (h : Hp) : Option (Int32 × Hp) :=
rtI s0 h
set_option maxHeartbeats 4000000 in
set_option maxRecDepth 100000 in
theorem t_X0_sectionAt_28 (Z : ZZ p s m args c cX0_sectionAt RX0 2 G) (hr : meth.sig.returnType = (some .int)) (hlk : meth.locks = false) (hin : meth.name = "sectionAt") {v : Int32} {h1 : Hp} : ∀ (s0 : Int32) (h : Hp) (H : Heap) (locs : List Loc) (ls : Array Slot), f_X0_sectionAt_28 s0 h = some (v, h1) → Rep G h H → va_S (AA G) s.heap H locs → LV ls 2 [] → W p l e rm_X0_sectionAt s m args below meth c H locs 0 0 (MQ below (Qx G (some (.int v)) h1) args s 0 0 (AA G)) (F0 m 28 ls [.int s0]) := by
  intro s0 h H locs ls hq hR hS hl
  have hx := Z.1
  have hb := Z.2.1
  unfold f_X0_sectionAt_28 at hq
  exact xrI hx hb hr hlk hR hS hq (by decide) (by decide) dX0_sectionAt_28
def f_X0_sectionAt (this : Nat) (a0 : Int32) (h : Hp) : Option (Int32 × Hp) :=
gI h (some this) 1 3 (fun x1 =>
gI h (some this) 1 2 (fun x5 =>
(if x1 ≤ x5 then
gI h (some this) 1 2 (fun x21 =>
f_X0_sectionAt_28 ((x21 - a0) - 1) h)
else
gI h (some this) 1 2 (fun x12 =>
f_X0_sectionAt_28 (x12 + a0) h))))
set_option maxHeartbeats 4000000 in
set_option maxRecDepth 100000 in
theorem c_X0_sectionAt (l : Launch) {G : GG} (this : Nat) (a0 : Int32) (h : Hp) (v : Int32) (h1 : Hp) (hq : f_X0_sectionAt this a0 h = some (v, h1)) : Met l yX0_sectionAt (Cond.code yX0_sectionAt cX0_sectionAt 2 (some .int) :: GT) rm_X0_sectionAt (va_Pc [.ref this, .int a0] (Cn G h)) (Qx G (some (.int v)) h1) 0 0 (AA G) := by
  refine xMet (cc := cX0_sectionAt) (by decide) (Nat.le_of_ble_eq_true rfl) (List.forall_mem_cons.mpr ⟨rfl, (List.forall_mem_cons.mpr ⟨rfl, (fun _ z => by cases z)⟩)⟩) ?_
  intro p e s m below meth c ls Z hr hlk hin hR hS hl
  have hx := Z.1
  have hb := Z.2.1
  have hl : LV ls 2 [(0, va_rf (some this)), (1, .int a0)] := hl
  unfold f_X0_sectionAt at hq
  refine xaln hx hb hl (x := (some this)) 0 rfl dX0_sectionAt_0 ?_
  refine xgI Z hR hq fl_X0_34 rfl dX0_sectionAt_1 (fun x1 hq => ?_)
  refine xaln hx hb hl (x := (some this)) 0 rfl dX0_sectionAt_4 ?_
  refine xgI Z hR hq fl_X0_31 rfl dX0_sectionAt_5 (fun x5 hq => ?_)
  refine xcLe hx hb hq (tgt := 20) dX0_sectionAt_8 (by decide) (fun hq => ?_) (fun hq => ?_)
  · refine xaln hx hb hl (x := (some this)) 0 rfl dX0_sectionAt_20 ?_
    refine xgI Z hR hq fl_X0_31 rfl dX0_sectionAt_21 (fun x21 hq => ?_)
    refine xiln hx hb hl (x := a0) 1 rfl dX0_sectionAt_24 ?_
    refine lv_isub hx hb dX0_sectionAt_25 ?_
    refine lv_iconst (v := 1) hx hb dX0_sectionAt_26 (by decide) ?_
    refine lv_isub hx hb dX0_sectionAt_27 ?_
    exact t_X0_sectionAt_28 Z hr hlk hin ((x21 - a0) - 1) h _ _ ls hq hR hS (hl.sub [] rfl)
  refine xaln hx hb hl (x := (some this)) 0 rfl dX0_sectionAt_11 ?_
  refine xgI Z hR hq fl_X0_31 rfl dX0_sectionAt_12 (fun x12 hq => ?_)
  refine xiln hx hb hl (x := a0) 1 rfl dX0_sectionAt_15 ?_
  refine lv_iadd hx hb dX0_sectionAt_16 ?_
  refine lv_goto (tgt := 28) hx hb dX0_sectionAt_17 (by decide) ?_
  exact t_X0_sectionAt_28 Z hr hlk hin (x12 + a0) h _ _ ls hq hR hS (hl.sub [] rfl)
abbrev rm_X0_stepAtStation : Room := { frames := 0, cells := 0, slots := 0, locals := 0 }
def f_X0_stepAtStation_37 (s0 : Int32) (h : Hp) : Option (Int32 × Hp) :=
rtI s0 h
set_option maxHeartbeats 4000000 in
set_option maxRecDepth 100000 in
theorem t_X0_stepAtStation_37 (Z : ZZ p s m args c cX0_stepAtStation RX0 2 G) (hr : meth.sig.returnType = (some .int)) (hlk : meth.locks = false) (hin : meth.name = "stepAtStation") {v : Int32} {h1 : Hp} : ∀ (s0 : Int32) (h : Hp) (H : Heap) (locs : List Loc) (ls : Array Slot), f_X0_stepAtStation_37 s0 h = some (v, h1) → Rep G h H → va_S (AA G) s.heap H locs → LV ls 2 [] → W p l e rm_X0_stepAtStation s m args below meth c H locs 0 0 (MQ below (Qx G (some (.int v)) h1) args s 0 0 (AA G)) (F0 m 37 ls [.int s0]) := by
  intro s0 h H locs ls hq hR hS hl
  have hx := Z.1
  have hb := Z.2.1
  unfold f_X0_stepAtStation_37 at hq
  exact xrI hx hb hr hlk hR hS hq (by decide) (by decide) dX0_stepAtStation_37
def f_X0_stepAtStation_36  (h : Hp) : Option (Int32 × Hp) :=
f_X0_stepAtStation_37 (-1) h
set_option maxHeartbeats 4000000 in
set_option maxRecDepth 100000 in
theorem t_X0_stepAtStation_36 (Z : ZZ p s m args c cX0_stepAtStation RX0 2 G) (hr : meth.sig.returnType = (some .int)) (hlk : meth.locks = false) (hin : meth.name = "stepAtStation") {v : Int32} {h1 : Hp} : ∀  (h : Hp) (H : Heap) (locs : List Loc) (ls : Array Slot), f_X0_stepAtStation_36  h = some (v, h1) → Rep G h H → va_S (AA G) s.heap H locs → LV ls 2 [] → W p l e rm_X0_stepAtStation s m args below meth c H locs 0 0 (MQ below (Qx G (some (.int v)) h1) args s 0 0 (AA G)) (F0 m 36 ls []) := by
  intro  h H locs ls hq hR hS hl
  have hx := Z.1
  have hb := Z.2.1
  unfold f_X0_stepAtStation_36 at hq
  refine lv_iconst (v := (-1)) hx hb dX0_stepAtStation_36 (by decide) ?_
  exact t_X0_stepAtStation_37 Z hr hlk hin (-1) h H locs ls hq hR hS (hl.sub [] rfl)
def f_X0_stepAtStation_64 (s0 : Int32) (h : Hp) : Option (Int32 × Hp) :=
rtI s0 h
set_option maxHeartbeats 4000000 in
set_option maxRecDepth 100000 in
theorem t_X0_stepAtStation_64 (Z : ZZ p s m args c cX0_stepAtStation RX0 2 G) (hr : meth.sig.returnType = (some .int)) (hlk : meth.locks = false) (hin : meth.name = "stepAtStation") {v : Int32} {h1 : Hp} : ∀ (s0 : Int32) (h : Hp) (H : Heap) (locs : List Loc) (ls : Array Slot), f_X0_stepAtStation_64 s0 h = some (v, h1) → Rep G h H → va_S (AA G) s.heap H locs → LV ls 2 [] → W p l e rm_X0_stepAtStation s m args below meth c H locs 0 0 (MQ below (Qx G (some (.int v)) h1) args s 0 0 (AA G)) (F0 m 64 ls [.int s0]) := by
  intro s0 h H locs ls hq hR hS hl
  have hx := Z.1
  have hb := Z.2.1
  unfold f_X0_stepAtStation_64 at hq
  exact xrI hx hb hr hlk hR hS hq (by decide) (by decide) dX0_stepAtStation_64
def f_X0_stepAtStation_63  (h : Hp) : Option (Int32 × Hp) :=
f_X0_stepAtStation_64 (-1) h
set_option maxHeartbeats 4000000 in
set_option maxRecDepth 100000 in
theorem t_X0_stepAtStation_63 (Z : ZZ p s m args c cX0_stepAtStation RX0 2 G) (hr : meth.sig.returnType = (some .int)) (hlk : meth.locks = false) (hin : meth.name = "stepAtStation") {v : Int32} {h1 : Hp} : ∀  (h : Hp) (H : Heap) (locs : List Loc) (ls : Array Slot), f_X0_stepAtStation_63  h = some (v, h1) → Rep G h H → va_S (AA G) s.heap H locs → LV ls 2 [] → W p l e rm_X0_stepAtStation s m args below meth c H locs 0 0 (MQ below (Qx G (some (.int v)) h1) args s 0 0 (AA G)) (F0 m 63 ls []) := by
  intro  h H locs ls hq hR hS hl
  have hx := Z.1
  have hb := Z.2.1
  unfold f_X0_stepAtStation_63 at hq
  refine lv_iconst (v := (-1)) hx hb dX0_stepAtStation_63 (by decide) ?_
  exact t_X0_stepAtStation_64 Z hr hlk hin (-1) h H locs ls hq hR hS (hl.sub [] rfl)
def f_X0_stepAtStation (this : Nat) (a0 : Int32) (h : Hp) : Option (Int32 × Hp) :=
gI h (some this) 1 3 (fun x1 =>
gI h (some this) 1 2 (fun x5 =>
(if x1 ≤ x5 then
gI h (some this) 1 3 (fun x40 =>
(if a0 < x40 then
f_X0_stepAtStation_63  h
else
gI h (some this) 1 2 (fun x48 =>
(if x48 < a0 then
f_X0_stepAtStation_63  h
else
gI h (some this) 1 2 (fun x55 =>
f_X0_stepAtStation_64 (x55 - a0) h)))))
else
gI h (some this) 1 2 (fun x13 =>
(if a0 < x13 then
f_X0_stepAtStation_36  h
else
gI h (some this) 1 3 (fun x21 =>
(if x21 < a0 then
f_X0_stepAtStation_36  h
else
gI h (some this) 1 2 (fun x29 =>
f_X0_stepAtStation_37 (a0 - x29) h))))))))
set_option maxHeartbeats 4000000 in
set_option maxRecDepth 100000 in
theorem c_X0_stepAtStation (l : Launch) {G : GG} (this : Nat) (a0 : Int32) (h : Hp) (v : Int32) (h1 : Hp) (hq : f_X0_stepAtStation this a0 h = some (v, h1)) : Met l yX0_stepAtStation (Cond.code yX0_stepAtStation cX0_stepAtStation 2 (some .int) :: GT) rm_X0_stepAtStation (va_Pc [.ref this, .int a0] (Cn G h)) (Qx G (some (.int v)) h1) 0 0 (AA G) := by
  refine xMet (cc := cX0_stepAtStation) (by decide) (Nat.le_of_ble_eq_true rfl) (List.forall_mem_cons.mpr ⟨rfl, (List.forall_mem_cons.mpr ⟨rfl, (fun _ z => by cases z)⟩)⟩) ?_
  intro p e s m below meth c ls Z hr hlk hin hR hS hl
  have hx := Z.1
  have hb := Z.2.1
  have hl : LV ls 2 [(0, va_rf (some this)), (1, .int a0)] := hl
  unfold f_X0_stepAtStation at hq
  refine xaln hx hb hl (x := (some this)) 0 rfl dX0_stepAtStation_0 ?_
  refine xgI Z hR hq fl_X0_34 rfl dX0_stepAtStation_1 (fun x1 hq => ?_)
  refine xaln hx hb hl (x := (some this)) 0 rfl dX0_stepAtStation_4 ?_
  refine xgI Z hR hq fl_X0_31 rfl dX0_stepAtStation_5 (fun x5 hq => ?_)
  refine xcLe hx hb hq (tgt := 38) dX0_stepAtStation_8 (by decide) (fun hq => ?_) (fun hq => ?_)
  · refine xiln hx hb hl (x := a0) 1 rfl dX0_stepAtStation_38 ?_
    refine xaln hx hb hl (x := (some this)) 0 rfl dX0_stepAtStation_39 ?_
    refine xgI Z hR hq fl_X0_34 rfl dX0_stepAtStation_40 (fun x40 hq => ?_)
    refine xcLt hx hb hq (tgt := 63) dX0_stepAtStation_43 (by decide) (fun hq => ?_) (fun hq => ?_)
    · exact t_X0_stepAtStation_63 Z hr hlk hin  h _ _ ls hq hR hS (hl.sub [] rfl)
    refine xiln hx hb hl (x := a0) 1 rfl dX0_stepAtStation_46 ?_
    refine xaln hx hb hl (x := (some this)) 0 rfl dX0_stepAtStation_47 ?_
    refine xgI Z hR hq fl_X0_31 rfl dX0_stepAtStation_48 (fun x48 hq => ?_)
    refine xcGt hx hb hq (tgt := 63) dX0_stepAtStation_51 (by decide) (fun hq => ?_) (fun hq => ?_)
    · exact t_X0_stepAtStation_63 Z hr hlk hin  h _ _ ls hq hR hS (hl.sub [] rfl)
    refine xaln hx hb hl (x := (some this)) 0 rfl dX0_stepAtStation_54 ?_
    refine xgI Z hR hq fl_X0_31 rfl dX0_stepAtStation_55 (fun x55 hq => ?_)
    refine xiln hx hb hl (x := a0) 1 rfl dX0_stepAtStation_58 ?_
    refine lv_isub hx hb dX0_stepAtStation_59 ?_
    refine lv_goto (tgt := 64) hx hb dX0_stepAtStation_60 (by decide) ?_
    exact t_X0_stepAtStation_64 Z hr hlk hin (x55 - a0) h _ _ ls hq hR hS (hl.sub [] rfl)
  refine xiln hx hb hl (x := a0) 1 rfl dX0_stepAtStation_11 ?_
  refine xaln hx hb hl (x := (some this)) 0 rfl dX0_stepAtStation_12 ?_
  refine xgI Z hR hq fl_X0_31 rfl dX0_stepAtStation_13 (fun x13 hq => ?_)
  refine xcLt hx hb hq (tgt := 36) dX0_stepAtStation_16 (by decide) (fun hq => ?_) (fun hq => ?_)
  · exact t_X0_stepAtStation_36 Z hr hlk hin  h _ _ ls hq hR hS (hl.sub [] rfl)
  refine xiln hx hb hl (x := a0) 1 rfl dX0_stepAtStation_19 ?_
  refine xaln hx hb hl (x := (some this)) 0 rfl dX0_stepAtStation_20 ?_
  refine xgI Z hR hq fl_X0_34 rfl dX0_stepAtStation_21 (fun x21 hq => ?_)
  refine xcGt hx hb hq (tgt := 36) dX0_stepAtStation_24 (by decide) (fun hq => ?_) (fun hq => ?_)
  · exact t_X0_stepAtStation_36 Z hr hlk hin  h _ _ ls hq hR hS (hl.sub [] rfl)
  refine xiln hx hb hl (x := a0) 1 rfl dX0_stepAtStation_27 ?_
  refine xaln hx hb hl (x := (some this)) 0 rfl dX0_stepAtStation_28 ?_
  refine xgI Z hR hq fl_X0_31 rfl dX0_stepAtStation_29 (fun x29 hq => ?_)
  refine lv_isub hx hb dX0_stepAtStation_32 ?_
  refine lv_goto (tgt := 37) hx hb dX0_stepAtStation_33 (by decide) ?_
  exact t_X0_stepAtStation_37 Z hr hlk hin (a0 - x29) h _ _ ls hq hR hS (hl.sub [] rfl)
abbrev rm_X0_stepInSection : Room := { frames := 0, cells := 0, slots := 0, locals := 0 }
def f_X0_stepInSection_37 (s0 : Int32) (h : Hp) : Option (Int32 × Hp) :=
rtI s0 h
set_option maxHeartbeats 4000000 in
set_option maxRecDepth 100000 in
theorem t_X0_stepInSection_37 (Z : ZZ p s m args c cX0_stepInSection RX0 2 G) (hr : meth.sig.returnType = (some .int)) (hlk : meth.locks = false) (hin : meth.name = "stepInSection") {v : Int32} {h1 : Hp} : ∀ (s0 : Int32) (h : Hp) (H : Heap) (locs : List Loc) (ls : Array Slot), f_X0_stepInSection_37 s0 h = some (v, h1) → Rep G h H → va_S (AA G) s.heap H locs → LV ls 2 [] → W p l e rm_X0_stepInSection s m args below meth c H locs 0 0 (MQ below (Qx G (some (.int v)) h1) args s 0 0 (AA G)) (F0 m 37 ls [.int s0]) := by
  intro s0 h H locs ls hq hR hS hl
  have hx := Z.1
  have hb := Z.2.1
  unfold f_X0_stepInSection_37 at hq
  exact xrI hx hb hr hlk hR hS hq (by decide) (by decide) dX0_stepInSection_37
def f_X0_stepInSection_36  (h : Hp) : Option (Int32 × Hp) :=
f_X0_stepInSection_37 (-1) h
set_option maxHeartbeats 4000000 in
set_option maxRecDepth 100000 in
theorem t_X0_stepInSection_36 (Z : ZZ p s m args c cX0_stepInSection RX0 2 G) (hr : meth.sig.returnType = (some .int)) (hlk : meth.locks = false) (hin : meth.name = "stepInSection") {v : Int32} {h1 : Hp} : ∀  (h : Hp) (H : Heap) (locs : List Loc) (ls : Array Slot), f_X0_stepInSection_36  h = some (v, h1) → Rep G h H → va_S (AA G) s.heap H locs → LV ls 2 [] → W p l e rm_X0_stepInSection s m args below meth c H locs 0 0 (MQ below (Qx G (some (.int v)) h1) args s 0 0 (AA G)) (F0 m 36 ls []) := by
  intro  h H locs ls hq hR hS hl
  have hx := Z.1
  have hb := Z.2.1
  unfold f_X0_stepInSection_36 at hq
  refine lv_iconst (v := (-1)) hx hb dX0_stepInSection_36 (by decide) ?_
  exact t_X0_stepInSection_37 Z hr hlk hin (-1) h H locs ls hq hR hS (hl.sub [] rfl)
def f_X0_stepInSection_66 (s0 : Int32) (h : Hp) : Option (Int32 × Hp) :=
rtI s0 h
set_option maxHeartbeats 4000000 in
set_option maxRecDepth 100000 in
theorem t_X0_stepInSection_66 (Z : ZZ p s m args c cX0_stepInSection RX0 2 G) (hr : meth.sig.returnType = (some .int)) (hlk : meth.locks = false) (hin : meth.name = "stepInSection") {v : Int32} {h1 : Hp} : ∀ (s0 : Int32) (h : Hp) (H : Heap) (locs : List Loc) (ls : Array Slot), f_X0_stepInSection_66 s0 h = some (v, h1) → Rep G h H → va_S (AA G) s.heap H locs → LV ls 2 [] → W p l e rm_X0_stepInSection s m args below meth c H locs 0 0 (MQ below (Qx G (some (.int v)) h1) args s 0 0 (AA G)) (F0 m 66 ls [.int s0]) := by
  intro s0 h H locs ls hq hR hS hl
  have hx := Z.1
  have hb := Z.2.1
  unfold f_X0_stepInSection_66 at hq
  exact xrI hx hb hr hlk hR hS hq (by decide) (by decide) dX0_stepInSection_66
def f_X0_stepInSection_65  (h : Hp) : Option (Int32 × Hp) :=
f_X0_stepInSection_66 (-1) h
set_option maxHeartbeats 4000000 in
set_option maxRecDepth 100000 in
theorem t_X0_stepInSection_65 (Z : ZZ p s m args c cX0_stepInSection RX0 2 G) (hr : meth.sig.returnType = (some .int)) (hlk : meth.locks = false) (hin : meth.name = "stepInSection") {v : Int32} {h1 : Hp} : ∀  (h : Hp) (H : Heap) (locs : List Loc) (ls : Array Slot), f_X0_stepInSection_65  h = some (v, h1) → Rep G h H → va_S (AA G) s.heap H locs → LV ls 2 [] → W p l e rm_X0_stepInSection s m args below meth c H locs 0 0 (MQ below (Qx G (some (.int v)) h1) args s 0 0 (AA G)) (F0 m 65 ls []) := by
  intro  h H locs ls hq hR hS hl
  have hx := Z.1
  have hb := Z.2.1
  unfold f_X0_stepInSection_65 at hq
  refine lv_iconst (v := (-1)) hx hb dX0_stepInSection_65 (by decide) ?_
  exact t_X0_stepInSection_66 Z hr hlk hin (-1) h H locs ls hq hR hS (hl.sub [] rfl)
def f_X0_stepInSection (this : Nat) (a0 : Int32) (h : Hp) : Option (Int32 × Hp) :=
gI h (some this) 1 3 (fun x1 =>
gI h (some this) 1 2 (fun x5 =>
(if x1 ≤ x5 then
gI h (some this) 1 3 (fun x40 =>
(if a0 < x40 then
f_X0_stepInSection_65  h
else
gI h (some this) 1 2 (fun x48 =>
(if x48 ≤ a0 then
f_X0_stepInSection_65  h
else
gI h (some this) 1 2 (fun x55 =>
f_X0_stepInSection_66 ((x55 - a0) - 1) h)))))
else
gI h (some this) 1 2 (fun x13 =>
(if a0 < x13 then
f_X0_stepInSection_36  h
else
gI h (some this) 1 3 (fun x21 =>
(if x21 ≤ a0 then
f_X0_stepInSection_36  h
else
gI h (some this) 1 2 (fun x29 =>
f_X0_stepInSection_37 (a0 - x29) h))))))))
set_option maxHeartbeats 4000000 in
set_option maxRecDepth 100000 in
theorem c_X0_stepInSection (l : Launch) {G : GG} (this : Nat) (a0 : Int32) (h : Hp) (v : Int32) (h1 : Hp) (hq : f_X0_stepInSection this a0 h = some (v, h1)) : Met l yX0_stepInSection (Cond.code yX0_stepInSection cX0_stepInSection 2 (some .int) :: GT) rm_X0_stepInSection (va_Pc [.ref this, .int a0] (Cn G h)) (Qx G (some (.int v)) h1) 0 0 (AA G) := by
  refine xMet (cc := cX0_stepInSection) (by decide) (Nat.le_of_ble_eq_true rfl) (List.forall_mem_cons.mpr ⟨rfl, (List.forall_mem_cons.mpr ⟨rfl, (fun _ z => by cases z)⟩)⟩) ?_
  intro p e s m below meth c ls Z hr hlk hin hR hS hl
  have hx := Z.1
  have hb := Z.2.1
  have hl : LV ls 2 [(0, va_rf (some this)), (1, .int a0)] := hl
  unfold f_X0_stepInSection at hq
  refine xaln hx hb hl (x := (some this)) 0 rfl dX0_stepInSection_0 ?_
  refine xgI Z hR hq fl_X0_34 rfl dX0_stepInSection_1 (fun x1 hq => ?_)
  refine xaln hx hb hl (x := (some this)) 0 rfl dX0_stepInSection_4 ?_
  refine xgI Z hR hq fl_X0_31 rfl dX0_stepInSection_5 (fun x5 hq => ?_)
  refine xcLe hx hb hq (tgt := 38) dX0_stepInSection_8 (by decide) (fun hq => ?_) (fun hq => ?_)
  · refine xiln hx hb hl (x := a0) 1 rfl dX0_stepInSection_38 ?_
    refine xaln hx hb hl (x := (some this)) 0 rfl dX0_stepInSection_39 ?_
    refine xgI Z hR hq fl_X0_34 rfl dX0_stepInSection_40 (fun x40 hq => ?_)
    refine xcLt hx hb hq (tgt := 65) dX0_stepInSection_43 (by decide) (fun hq => ?_) (fun hq => ?_)
    · exact t_X0_stepInSection_65 Z hr hlk hin  h _ _ ls hq hR hS (hl.sub [] rfl)
    refine xiln hx hb hl (x := a0) 1 rfl dX0_stepInSection_46 ?_
    refine xaln hx hb hl (x := (some this)) 0 rfl dX0_stepInSection_47 ?_
    refine xgI Z hR hq fl_X0_31 rfl dX0_stepInSection_48 (fun x48 hq => ?_)
    refine xcGe hx hb hq (tgt := 65) dX0_stepInSection_51 (by decide) (fun hq => ?_) (fun hq => ?_)
    · exact t_X0_stepInSection_65 Z hr hlk hin  h _ _ ls hq hR hS (hl.sub [] rfl)
    refine xaln hx hb hl (x := (some this)) 0 rfl dX0_stepInSection_54 ?_
    refine xgI Z hR hq fl_X0_31 rfl dX0_stepInSection_55 (fun x55 hq => ?_)
    refine xiln hx hb hl (x := a0) 1 rfl dX0_stepInSection_58 ?_
    refine lv_isub hx hb dX0_stepInSection_59 ?_
    refine lv_iconst (v := 1) hx hb dX0_stepInSection_60 (by decide) ?_
    refine lv_isub hx hb dX0_stepInSection_61 ?_
    refine lv_goto (tgt := 66) hx hb dX0_stepInSection_62 (by decide) ?_
    exact t_X0_stepInSection_66 Z hr hlk hin ((x55 - a0) - 1) h _ _ ls hq hR hS (hl.sub [] rfl)
  refine xiln hx hb hl (x := a0) 1 rfl dX0_stepInSection_11 ?_
  refine xaln hx hb hl (x := (some this)) 0 rfl dX0_stepInSection_12 ?_
  refine xgI Z hR hq fl_X0_31 rfl dX0_stepInSection_13 (fun x13 hq => ?_)
  refine xcLt hx hb hq (tgt := 36) dX0_stepInSection_16 (by decide) (fun hq => ?_) (fun hq => ?_)
  · exact t_X0_stepInSection_36 Z hr hlk hin  h _ _ ls hq hR hS (hl.sub [] rfl)
  refine xiln hx hb hl (x := a0) 1 rfl dX0_stepInSection_19 ?_
  refine xaln hx hb hl (x := (some this)) 0 rfl dX0_stepInSection_20 ?_
  refine xgI Z hR hq fl_X0_34 rfl dX0_stepInSection_21 (fun x21 hq => ?_)
  refine xcGe hx hb hq (tgt := 36) dX0_stepInSection_24 (by decide) (fun hq => ?_) (fun hq => ?_)
  · exact t_X0_stepInSection_36 Z hr hlk hin  h _ _ ls hq hR hS (hl.sub [] rfl)
  refine xiln hx hb hl (x := a0) 1 rfl dX0_stepInSection_27 ?_
  refine xaln hx hb hl (x := (some this)) 0 rfl dX0_stepInSection_28 ?_
  refine xgI Z hR hq fl_X0_31 rfl dX0_stepInSection_29 (fun x29 hq => ?_)
  refine lv_isub hx hb dX0_stepInSection_32 ?_
  refine lv_goto (tgt := 37) hx hb dX0_stepInSection_33 (by decide) ?_
  exact t_X0_stepInSection_37 Z hr hlk hin (a0 - x29) h _ _ ls hq hR hS (hl.sub [] rfl)
end
end
