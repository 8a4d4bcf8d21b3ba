section
/-- a private method of a class that the tables say can be made, by its rows of tables_1 -/
def lw_okq (q : MethodName × Nat) : Prop := (q.1.cls ≠ "java/lang/invoke/MethodHandle" ∧ q.1.cls ≠ "java/lang/invoke/VarHandle") ∧ Cond.instantiable q.1.cls q.2 ∈ tables_1 ∧ Cond.privateMethod q.1 ∈ tables_1 ∧ Cond.instanceMethod q.1 ∈ tables_1
theorem lw_p0 : lw_okq (⟨"Takinghall", "plotAt", "(I)LTakinghall$Plot;"⟩, 12) := ⟨⟨by decide +kernel, by decide +kernel⟩, List.mem_of_getElem? (i := 15) (by decide +kernel), List.mem_of_getElem? (i := 144) (by decide +kernel), List.mem_of_getElem? (i := 145) (by decide +kernel)⟩
theorem lw_p1 : lw_okq (⟨"java/lang/Throwable", "fillInStackTrace", "(I)Ljava/lang/Throwable;"⟩, 6) := ⟨⟨by decide +kernel, by decide +kernel⟩, List.mem_of_getElem? (i := 186) (by decide +kernel), List.mem_of_getElem? (i := 184) (by decide +kernel), List.mem_of_getElem? (i := 185) (by decide +kernel)⟩
theorem lw_p2 : lw_okq (⟨"Takinghall", "priceOn", "(II)LTakinghall$Price;"⟩, 12) := ⟨⟨by decide +kernel, by decide +kernel⟩, List.mem_of_getElem? (i := 15) (by decide +kernel), List.mem_of_getElem? (i := 268) (by decide +kernel), List.mem_of_getElem? (i := 269) (by decide +kernel)⟩
theorem lw_p3 : lw_okq (⟨"Takinghall", "worthToday", "(LTakinghall$Plot;)I"⟩, 12) := ⟨⟨by decide +kernel, by decide +kernel⟩, List.mem_of_getElem? (i := 15) (by decide +kernel), List.mem_of_getElem? (i := 293) (by decide +kernel), List.mem_of_getElem? (i := 294) (by decide +kernel)⟩
theorem lw_p4 : lw_okq (⟨"Takinghall", "isBesideNeeded", "(I)Z"⟩, 12) := ⟨⟨by decide +kernel, by decide +kernel⟩, List.mem_of_getElem? (i := 15) (by decide +kernel), List.mem_of_getElem? (i := 300) (by decide +kernel), List.mem_of_getElem? (i := 301) (by decide +kernel)⟩
theorem lw_p5 : lw_okq (⟨"Takinghall", "sharesOf", "(LTakinghall$Plot;)I"⟩, 12) := ⟨⟨by decide +kernel, by decide +kernel⟩, List.mem_of_getElem? (i := 15) (by decide +kernel), List.mem_of_getElem? (i := 329) (by decide +kernel), List.mem_of_getElem? (i := 330) (by decide +kernel)⟩
theorem lw_p6 : lw_okq (⟨"Takinghall", "canTellInterest", "(LTakinghall$Plot;)Z"⟩, 12) := ⟨⟨by decide +kernel, by decide +kernel⟩, List.mem_of_getElem? (i := 15) (by decide +kernel), List.mem_of_getElem? (i := 334) (by decide +kernel), List.mem_of_getElem? (i := 335) (by decide +kernel)⟩
theorem lw_p7 : lw_okq (⟨"Takinghall", "tellInterest", "(ILTakinghall$Plot;III)I"⟩, 12) := ⟨⟨by decide +kernel, by decide +kernel⟩, List.mem_of_getElem? (i := 15) (by decide +kernel), List.mem_of_getElem? (i := 339) (by decide +kernel), List.mem_of_getElem? (i := 340) (by decide +kernel)⟩
theorem lw_p8 : lw_okq (⟨"Takinghall", "interestAt", "(I)LTakinghall$Interest;"⟩, 12) := ⟨⟨by decide +kernel, by decide +kernel⟩, List.mem_of_getElem? (i := 15) (by decide +kernel), List.mem_of_getElem? (i := 427) (by decide +kernel), List.mem_of_getElem? (i := 428) (by decide +kernel)⟩
theorem lw_p9 : lw_okq (⟨"Takinghall", "schemeAt", "(I)LTakinghall$Scheme;"⟩, 12) := ⟨⟨by decide +kernel, by decide +kernel⟩, List.mem_of_getElem? (i := 15) (by decide +kernel), List.mem_of_getElem? (i := 481) (by decide +kernel), List.mem_of_getElem? (i := 482) (by decide +kernel)⟩
theorem lw_p10 : lw_okq (⟨"Takinghall", "countNeeded", "(LTakinghall$Scheme;)I"⟩, 12) := ⟨⟨by decide +kernel, by decide +kernel⟩, List.mem_of_getElem? (i := 15) (by decide +kernel), List.mem_of_getElem? (i := 488) (by decide +kernel), List.mem_of_getElem? (i := 489) (by decide +kernel)⟩
theorem lw_p11 : lw_okq (⟨"Takinghall", "countOpenObjections", "(LTakinghall$Scheme;)I"⟩, 12) := ⟨⟨by decide +kernel, by decide +kernel⟩, List.mem_of_getElem? (i := 15) (by decide +kernel), List.mem_of_getElem? (i := 517) (by decide +kernel), List.mem_of_getElem? (i := 518) (by decide +kernel)⟩
theorem lw_p12 : lw_okq (⟨"Takinghall", "release", "(LTakinghall$Plot;)V"⟩, 12) := ⟨⟨by decide +kernel, by decide +kernel⟩, List.mem_of_getElem? (i := 15) (by decide +kernel), List.mem_of_getElem? (i := 529) (by decide +kernel), List.mem_of_getElem? (i := 530) (by decide +kernel)⟩
theorem lw_p13 : lw_okq (⟨"Takinghall", "countFreeNeeded", "(LTakinghall$Scheme;)I"⟩, 12) := ⟨⟨by decide +kernel, by decide +kernel⟩, List.mem_of_getElem? (i := 15) (by decide +kernel), List.mem_of_getElem? (i := 541) (by decide +kernel), List.mem_of_getElem? (i := 542) (by decide +kernel)⟩
theorem lw_p14 : lw_okq (⟨"Takinghall", "lowestThatStops", "(LTakinghall$Scheme;)LTakinghall$Interest;"⟩, 12) := ⟨⟨by decide +kernel, by decide +kernel⟩, List.mem_of_getElem? (i := 15) (by decide +kernel), List.mem_of_getElem? (i := 546) (by decide +kernel), List.mem_of_getElem? (i := 547) (by decide +kernel)⟩
theorem lw_p15 : lw_okq (⟨"Takinghall", "stops", "(LTakinghall$Interest;)Z"⟩, 12) := ⟨⟨by decide +kernel, by decide +kernel⟩, List.mem_of_getElem? (i := 15) (by decide +kernel), List.mem_of_getElem? (i := 550) (by decide +kernel), List.mem_of_getElem? (i := 551) (by decide +kernel)⟩
def lw_privs_1 : List (MethodName × Nat) := [(⟨"Takinghall", "plotAt", "(I)LTakinghall$Plot;"⟩, 12), (⟨"java/lang/Throwable", "fillInStackTrace", "(I)Ljava/lang/Throwable;"⟩, 6), (⟨"Takinghall", "priceOn", "(II)LTakinghall$Price;"⟩, 12), (⟨"Takinghall", "worthToday", "(LTakinghall$Plot;)I"⟩, 12), (⟨"Takinghall", "isBesideNeeded", "(I)Z"⟩, 12), (⟨"Takinghall", "sharesOf", "(LTakinghall$Plot;)I"⟩, 12), (⟨"Takinghall", "canTellInterest", "(LTakinghall$Plot;)Z"⟩, 12), (⟨"Takinghall", "tellInterest", "(ILTakinghall$Plot;III)I"⟩, 12), (⟨"Takinghall", "interestAt", "(I)LTakinghall$Interest;"⟩, 12), (⟨"Takinghall", "schemeAt", "(I)LTakinghall$Scheme;"⟩, 12), (⟨"Takinghall", "countNeeded", "(LTakinghall$Scheme;)I"⟩, 12), (⟨"Takinghall", "countOpenObjections", "(LTakinghall$Scheme;)I"⟩, 12), (⟨"Takinghall", "release", "(LTakinghall$Plot;)V"⟩, 12), (⟨"Takinghall", "countFreeNeeded", "(LTakinghall$Scheme;)I"⟩, 12), (⟨"Takinghall", "lowestThatStops", "(LTakinghall$Scheme;)LTakinghall$Interest;"⟩, 12), (⟨"Takinghall", "stops", "(LTakinghall$Interest;)Z"⟩, 12)]
theorem lw_r1 : ∀ q ∈ lw_privs_1, lw_okq q := List.forall_mem_cons.mpr ⟨lw_p0, List.forall_mem_cons.mpr ⟨lw_p1, List.forall_mem_cons.mpr ⟨lw_p2, List.forall_mem_cons.mpr ⟨lw_p3, List.forall_mem_cons.mpr ⟨lw_p4, List.forall_mem_cons.mpr ⟨lw_p5, List.forall_mem_cons.mpr ⟨lw_p6, List.forall_mem_cons.mpr ⟨lw_p7, List.forall_mem_cons.mpr ⟨lw_p8, List.forall_mem_cons.mpr ⟨lw_p9, List.forall_mem_cons.mpr ⟨lw_p10, List.forall_mem_cons.mpr ⟨lw_p11, List.forall_mem_cons.mpr ⟨lw_p12, List.forall_mem_cons.mpr ⟨lw_p13, List.forall_mem_cons.mpr ⟨lw_p14, List.forall_mem_cons.mpr ⟨lw_p15, fun _ h => absurd h List.not_mem_nil⟩⟩⟩⟩⟩⟩⟩⟩⟩⟩⟩⟩⟩⟩⟩⟩
theorem lw_p16 : lw_okq (⟨"Takinghall", "letGo", "(LTakinghall$Plot;)Z"⟩, 12) := ⟨⟨by decide +kernel, by decide +kernel⟩, List.mem_of_getElem? (i := 15) (by decide +kernel), List.mem_of_getElem? (i := 573) (by decide +kernel), List.mem_of_getElem? (i := 574) (by decide +kernel)⟩
theorem lw_p17 : lw_okq (⟨"Takinghall", "ownerBehind", "(LTakinghall$Plot;LTakinghall$Interest;)LTakinghall$Interest;"⟩, 12) := ⟨⟨by decide +kernel, by decide +kernel⟩, List.mem_of_getElem? (i := 15) (by decide +kernel), List.mem_of_getElem? (i := 577) (by decide +kernel), List.mem_of_getElem? (i := 578) (by decide +kernel)⟩
theorem lw_p18 : lw_okq (⟨"Takinghall", "take", "(LTakinghall$Plot;)I"⟩, 12) := ⟨⟨by decide +kernel, by decide +kernel⟩, List.mem_of_getElem? (i := 15) (by decide +kernel), List.mem_of_getElem? (i := 602) (by decide +kernel), List.mem_of_getElem? (i := 603) (by decide +kernel)⟩
theorem lw_p19 : lw_okq (⟨"Takinghall", "sumBy", "(LTakinghall$Interest;I)J"⟩, 12) := ⟨⟨by decide +kernel, by decide +kernel⟩, List.mem_of_getElem? (i := 15) (by decide +kernel), List.mem_of_getElem? (i := 612) (by decide +kernel), List.mem_of_getElem? (i := 613) (by decide +kernel)⟩
theorem lw_p20 : lw_okq (⟨"Takinghall", "ownerSum", "(LTakinghall$Interest;LTakinghall$Plot;I)I"⟩, 12) := ⟨⟨by decide +kernel, by decide +kernel⟩, List.mem_of_getElem? (i := 15) (by decide +kernel), List.mem_of_getElem? (i := 616) (by decide +kernel), List.mem_of_getElem? (i := 617) (by decide +kernel)⟩
theorem lw_p21 : lw_okq (⟨"Takinghall", "leftBehindCharges", "(LTakinghall$Plot;II)I"⟩, 12) := ⟨⟨by decide +kernel, by decide +kernel⟩, List.mem_of_getElem? (i := 15) (by decide +kernel), List.mem_of_getElem? (i := 620) (by decide +kernel), List.mem_of_getElem? (i := 621) (by decide +kernel)⟩
theorem lw_p22 : lw_okq (⟨"Takinghall", "leftForCourt", "(LTakinghall$Plot;I)I"⟩, 12) := ⟨⟨by decide +kernel, by decide +kernel⟩, List.mem_of_getElem? (i := 15) (by decide +kernel), List.mem_of_getElem? (i := 630) (by decide +kernel), List.mem_of_getElem? (i := 631) (by decide +kernel)⟩
theorem lw_p23 : lw_okq (⟨"Takinghall", "countWorks", "()I"⟩, 12) := ⟨⟨by decide +kernel, by decide +kernel⟩, List.mem_of_getElem? (i := 15) (by decide +kernel), List.mem_of_getElem? (i := 651) (by decide +kernel), List.mem_of_getElem? (i := 652) (by decide +kernel)⟩
theorem lw_p24 : lw_okq (⟨"Takinghall", "owedTo", "(LTakinghall$Interest;)J"⟩, 12) := ⟨⟨by decide +kernel, by decide +kernel⟩, List.mem_of_getElem? (i := 15) (by decide +kernel), List.mem_of_getElem? (i := 672) (by decide +kernel), List.mem_of_getElem? (i := 673) (by decide +kernel)⟩
theorem lw_p25 : lw_okq (⟨"Takinghall", "gainOf", "(LTakinghall$Interest;)J"⟩, 12) := ⟨⟨by decide +kernel, by decide +kernel⟩, List.mem_of_getElem? (i := 15) (by decide +kernel), List.mem_of_getElem? (i := 676) (by decide +kernel), List.mem_of_getElem? (i := 677) (by decide +kernel)⟩
theorem lw_p26 : lw_okq (⟨"TakinghallModel", "isPlot", "(I)Z"⟩, 35) := ⟨⟨by decide +kernel, by decide +kernel⟩, List.mem_of_getElem? (i := 742) (by decide +kernel), List.mem_of_getElem? (i := 866) (by decide +kernel), List.mem_of_getElem? (i := 867) (by decide +kernel)⟩
theorem lw_p27 : lw_okq (⟨"TakinghallModel", "between", "(III)Z"⟩, 35) := ⟨⟨by decide +kernel, by decide +kernel⟩, List.mem_of_getElem? (i := 742) (by decide +kernel), List.mem_of_getElem? (i := 870) (by decide +kernel), List.mem_of_getElem? (i := 871) (by decide +kernel)⟩
theorem lw_p28 : lw_okq (⟨"TakinghallModel", "isUse", "(I)Z"⟩, 35) := ⟨⟨by decide +kernel, by decide +kernel⟩, List.mem_of_getElem? (i := 742) (by decide +kernel), List.mem_of_getElem? (i := 874) (by decide +kernel), List.mem_of_getElem? (i := 875) (by decide +kernel)⟩
theorem lw_p29 : lw_okq (⟨"TakinghallModel", "worthOn", "(II)I"⟩, 35) := ⟨⟨by decide +kernel, by decide +kernel⟩, List.mem_of_getElem? (i := 742) (by decide +kernel), List.mem_of_getElem? (i := 886) (by decide +kernel), List.mem_of_getElem? (i := 887) (by decide +kernel)⟩
theorem lw_p30 : lw_okq (⟨"TakinghallModel", "isNeededBeside", "(I)Z"⟩, 35) := ⟨⟨by decide +kernel, by decide +kernel⟩, List.mem_of_getElem? (i := 742) (by decide +kernel), List.mem_of_getElem? (i := 894) (by decide +kernel), List.mem_of_getElem? (i := 895) (by decide +kernel)⟩
theorem lw_p31 : lw_okq (⟨"TakinghallModel", "tell", "(IIIIZ)I"⟩, 35) := ⟨⟨by decide +kernel, by decide +kernel⟩, List.mem_of_getElem? (i := 742) (by decide +kernel), List.mem_of_getElem? (i := 906) (by decide +kernel), List.mem_of_getElem? (i := 907) (by decide +kernel)⟩
def lw_privs_2 : List (MethodName × Nat) := [(⟨"Takinghall", "letGo", "(LTakinghall$Plot;)Z"⟩, 12), (⟨"Takinghall", "ownerBehind", "(LTakinghall$Plot;LTakinghall$Interest;)LTakinghall$Interest;"⟩, 12), (⟨"Takinghall", "take", "(LTakinghall$Plot;)I"⟩, 12), (⟨"Takinghall", "sumBy", "(LTakinghall$Interest;I)J"⟩, 12), (⟨"Takinghall", "ownerSum", "(LTakinghall$Interest;LTakinghall$Plot;I)I"⟩, 12), (⟨"Takinghall", "leftBehindCharges", "(LTakinghall$Plot;II)I"⟩, 12), (⟨"Takinghall", "leftForCourt", "(LTakinghall$Plot;I)I"⟩, 12), (⟨"Takinghall", "countWorks", "()I"⟩, 12), (⟨"Takinghall", "owedTo", "(LTakinghall$Interest;)J"⟩, 12), (⟨"Takinghall", "gainOf", "(LTakinghall$Interest;)J"⟩, 12), (⟨"TakinghallModel", "isPlot", "(I)Z"⟩, 35), (⟨"TakinghallModel", "between", "(III)Z"⟩, 35), (⟨"TakinghallModel", "isUse", "(I)Z"⟩, 35), (⟨"TakinghallModel", "worthOn", "(II)I"⟩, 35), (⟨"TakinghallModel", "isNeededBeside", "(I)Z"⟩, 35), (⟨"TakinghallModel", "tell", "(IIIIZ)I"⟩, 35)]
theorem lw_r2 : ∀ q ∈ lw_privs_2, lw_okq q := List.forall_mem_cons.mpr ⟨lw_p16, List.forall_mem_cons.mpr ⟨lw_p17, List.forall_mem_cons.mpr ⟨lw_p18, List.forall_mem_cons.mpr ⟨lw_p19, List.forall_mem_cons.mpr ⟨lw_p20, List.forall_mem_cons.mpr ⟨lw_p21, List.forall_mem_cons.mpr ⟨lw_p22, List.forall_mem_cons.mpr ⟨lw_p23, List.forall_mem_cons.mpr ⟨lw_p24, List.forall_mem_cons.mpr ⟨lw_p25, List.forall_mem_cons.mpr ⟨lw_p26, List.forall_mem_cons.mpr ⟨lw_p27, List.forall_mem_cons.mpr ⟨lw_p28, List.forall_mem_cons.mpr ⟨lw_p29, List.forall_mem_cons.mpr ⟨lw_p30, List.forall_mem_cons.mpr ⟨lw_p31, fun _ h => absurd h List.not_mem_nil⟩⟩⟩⟩⟩⟩⟩⟩⟩⟩⟩⟩⟩⟩⟩⟩
theorem lw_p32 : lw_okq (⟨"TakinghallModel", "isInterest", "(I)Z"⟩, 35) := ⟨⟨by decide +kernel, by decide +kernel⟩, List.mem_of_getElem? (i := 742) (by decide +kernel), List.mem_of_getElem? (i := 923) (by decide +kernel), List.mem_of_getElem? (i := 924) (by decide +kernel)⟩
theorem lw_p33 : lw_okq (⟨"TakinghallModel", "isScheme", "(I)Z"⟩, 35) := ⟨⟨by decide +kernel, by decide +kernel⟩, List.mem_of_getElem? (i := 742) (by decide +kernel), List.mem_of_getElem? (i := 935) (by decide +kernel), List.mem_of_getElem? (i := 936) (by decide +kernel)⟩
theorem lw_p34 : lw_okq (⟨"TakinghallModel", "neededBy", "(IZ)I"⟩, 35) := ⟨⟨by decide +kernel, by decide +kernel⟩, List.mem_of_getElem? (i := 742) (by decide +kernel), List.mem_of_getElem? (i := 939) (by decide +kernel), List.mem_of_getElem? (i := 940) (by decide +kernel)⟩
theorem lw_p35 : lw_okq (⟨"TakinghallModel", "isDrafted", "(I)Z"⟩, 35) := ⟨⟨by decide +kernel, by decide +kernel⟩, List.mem_of_getElem? (i := 742) (by decide +kernel), List.mem_of_getElem? (i := 947) (by decide +kernel), List.mem_of_getElem? (i := 948) (by decide +kernel)⟩
theorem lw_p36 : lw_okq (⟨"TakinghallModel", "openOf", "(I)I"⟩, 35) := ⟨⟨by decide +kernel, by decide +kernel⟩, List.mem_of_getElem? (i := 742) (by decide +kernel), List.mem_of_getElem? (i := 955) (by decide +kernel), List.mem_of_getElem? (i := 956) (by decide +kernel)⟩
theorem lw_p37 : lw_okq (⟨"TakinghallModel", "letGo", "(I)V"⟩, 35) := ⟨⟨by decide +kernel, by decide +kernel⟩, List.mem_of_getElem? (i := 742) (by decide +kernel), List.mem_of_getElem? (i := 963) (by decide +kernel), List.mem_of_getElem? (i := 964) (by decide +kernel)⟩
theorem lw_p38 : lw_okq (⟨"TakinghallModel", "stopper", "(I)I"⟩, 35) := ⟨⟨by decide +kernel, by decide +kernel⟩, List.mem_of_getElem? (i := 742) (by decide +kernel), List.mem_of_getElem? (i := 971) (by decide +kernel), List.mem_of_getElem? (i := 972) (by decide +kernel)⟩
theorem lw_p39 : lw_okq (⟨"TakinghallModel", "ownerBehind", "(II)I"⟩, 35) := ⟨⟨by decide +kernel, by decide +kernel⟩, List.mem_of_getElem? (i := 742) (by decide +kernel), List.mem_of_getElem? (i := 983) (by decide +kernel), List.mem_of_getElem? (i := 984) (by decide +kernel)⟩
theorem lw_p40 : lw_okq (⟨"TakinghallModel", "take", "(I)I"⟩, 35) := ⟨⟨by decide +kernel, by decide +kernel⟩, List.mem_of_getElem? (i := 742) (by decide +kernel), List.mem_of_getElem? (i := 995) (by decide +kernel), List.mem_of_getElem? (i := 996) (by decide +kernel)⟩
theorem lw_p41 : lw_okq (⟨"TakinghallModel", "landOf", "(II)I"⟩, 35) := ⟨⟨by decide +kernel, by decide +kernel⟩, List.mem_of_getElem? (i := 742) (by decide +kernel), List.mem_of_getElem? (i := 999) (by decide +kernel), List.mem_of_getElem? (i := 1000) (by decide +kernel)⟩
theorem lw_p42 : lw_okq (⟨"TakinghallModel", "leftAhead", "(II)J"⟩, 35) := ⟨⟨by decide +kernel, by decide +kernel⟩, List.mem_of_getElem? (i := 742) (by decide +kernel), List.mem_of_getElem? (i := 1003) (by decide +kernel), List.mem_of_getElem? (i := 1004) (by decide +kernel)⟩
theorem lw_p43 : lw_okq (⟨"TakinghallModel", "sumOf", "(I)J"⟩, 35) := ⟨⟨by decide +kernel, by decide +kernel⟩, List.mem_of_getElem? (i := 742) (by decide +kernel), List.mem_of_getElem? (i := 1007) (by decide +kernel), List.mem_of_getElem? (i := 1008) (by decide +kernel)⟩
theorem lw_p44 : lw_okq (⟨"TakinghallModel", "byShare", "(I)J"⟩, 35) := ⟨⟨by decide +kernel, by decide +kernel⟩, List.mem_of_getElem? (i := 742) (by decide +kernel), List.mem_of_getElem? (i := 1011) (by decide +kernel), List.mem_of_getElem? (i := 1012) (by decide +kernel)⟩
theorem lw_p45 : lw_okq (⟨"TakinghallModel", "wasTaken", "(I)Z"⟩, 35) := ⟨⟨by decide +kernel, by decide +kernel⟩, List.mem_of_getElem? (i := 742) (by decide +kernel), List.mem_of_getElem? (i := 1029) (by decide +kernel), List.mem_of_getElem? (i := 1030) (by decide +kernel)⟩
theorem lw_p46 : lw_okq (⟨"TakinghallModel", "owedTo", "(I)J"⟩, 35) := ⟨⟨by decide +kernel, by decide +kernel⟩, List.mem_of_getElem? (i := 742) (by decide +kernel), List.mem_of_getElem? (i := 1037) (by decide +kernel), List.mem_of_getElem? (i := 1038) (by decide +kernel)⟩
theorem lw_p47 : lw_okq (⟨"TakinghallModel", "gain", "(JI)J"⟩, 35) := ⟨⟨by decide +kernel, by decide +kernel⟩, List.mem_of_getElem? (i := 742) (by decide +kernel), List.mem_of_getElem? (i := 1041) (by decide +kernel), List.mem_of_getElem? (i := 1042) (by decide +kernel)⟩
def lw_privs_3 : List (MethodName × Nat) := [(⟨"TakinghallModel", "isInterest", "(I)Z"⟩, 35), (⟨"TakinghallModel", "isScheme", "(I)Z"⟩, 35), (⟨"TakinghallModel", "neededBy", "(IZ)I"⟩, 35), (⟨"TakinghallModel", "isDrafted", "(I)Z"⟩, 35), (⟨"TakinghallModel", "openOf", "(I)I"⟩, 35), (⟨"TakinghallModel", "letGo", "(I)V"⟩, 35), (⟨"TakinghallModel", "stopper", "(I)I"⟩, 35), (⟨"TakinghallModel", "ownerBehind", "(II)I"⟩, 35), (⟨"TakinghallModel", "take", "(I)I"⟩, 35), (⟨"TakinghallModel", "landOf", "(II)I"⟩, 35), (⟨"TakinghallModel", "leftAhead", "(II)J"⟩, 35), (⟨"TakinghallModel", "sumOf", "(I)J"⟩, 35), (⟨"TakinghallModel", "byShare", "(I)J"⟩, 35), (⟨"TakinghallModel", "wasTaken", "(I)Z"⟩, 35), (⟨"TakinghallModel", "owedTo", "(I)J"⟩, 35), (⟨"TakinghallModel", "gain", "(JI)J"⟩, 35)]
theorem lw_r3 : ∀ q ∈ lw_privs_3, lw_okq q := List.forall_mem_cons.mpr ⟨lw_p32, List.forall_mem_cons.mpr ⟨lw_p33, List.forall_mem_cons.mpr ⟨lw_p34, List.forall_mem_cons.mpr ⟨lw_p35, List.forall_mem_cons.mpr ⟨lw_p36, List.forall_mem_cons.mpr ⟨lw_p37, List.forall_mem_cons.mpr ⟨lw_p38, List.forall_mem_cons.mpr ⟨lw_p39, List.forall_mem_cons.mpr ⟨lw_p40, List.forall_mem_cons.mpr ⟨lw_p41, List.forall_mem_cons.mpr ⟨lw_p42, List.forall_mem_cons.mpr ⟨lw_p43, List.forall_mem_cons.mpr ⟨lw_p44, List.forall_mem_cons.mpr ⟨lw_p45, List.forall_mem_cons.mpr ⟨lw_p46, List.forall_mem_cons.mpr ⟨lw_p47, fun _ h => absurd h List.not_mem_nil⟩⟩⟩⟩⟩⟩⟩⟩⟩⟩⟩⟩⟩⟩⟩⟩
def lw_privs : List (MethodName × Nat) := lw_privs_1 ++ (lw_privs_2 ++ (lw_privs_3))
def lw_tbl : List Cond := k2_sels lw_privs ++ tables_1
theorem lw_privs_ok : ∀ q ∈ lw_privs, lw_okq q := by
  show ∀ q ∈ lw_privs_1 ++ (lw_privs_2 ++ (lw_privs_3)), lw_okq q
  exact List.forall_mem_append.mpr ⟨lw_r1, List.forall_mem_append.mpr ⟨lw_r2, lw_r3⟩⟩
end
section
/-! ===== BEGIN words of one list among another's, by their places ===== -/
theorem goodIn_r {big : List Cond} (ws : List Cond) (ps : List Nat) (hp : ws = ps.filterMap (fun i => big[i]?)) (h : ws.all goodWord = true) : GoodIn big ws := by
  intro w hw
  have h1 := List.all_eq_true.mp h w hw
  rw [hp] at hw
  obtain ⟨i, -, hi⟩ := List.mem_filterMap.mp hw
  have hm : w ∈ big := by first | exact List.mem_of_getElem? hi | exact List.getElem?_mem hi
  exact ⟨hm, good_of_word h1⟩
theorem goodIn_app {big a b : List Cond} (ha : GoodIn big a) (hb : GoodIn big b) : GoodIn big (a ++ b) := fun w h => (List.mem_append.mp h).elim (ha w) (hb w)
theorem goodIn_ca {big a b : List Cond} {c : Cond} (ha : GoodIn big (c :: a)) (hb : GoodIn big b) : GoodIn big (c :: (a ++ b)) := fun w h => (List.mem_cons.mp h).elim (fun e => ha w (List.mem_cons.mpr (Or.inl e))) (fun h => (List.mem_append.mp h).elim (fun h => ha w (List.mem_cons.mpr (Or.inr h))) (hb w))
theorem goodIn_sub {big ws : List Cond} (hm : ∀ w ∈ ws, w ∈ big) (h : ws.all goodWord = true) : GoodIn big ws := fun w hw => ⟨hm w hw, good_of_word (List.all_eq_true.mp h w hw)⟩
/-! ===== END ===== -/

/-! ===== BEGIN exceptions that leave a method, and their catching by the caller (launches without stack traces) ===== -/
section VXA
/-! The laws vx_back, vx_callV, vx_callS, vx_callSW, vx_throw0, vx_throwS follow proofs of the library, with one case more: JvmDerived/Free/Laws.lean (Back.of_free), Shelf42/LK1.lean (callV, callS), Shelf/KitTraced.lean (throwNew0V, throwNewS). -/
/-- where a method has thrown q: the class by its name, the cell, what was written, the world -/
def vx_T (XC : String → State → State → Prop) (st : State) (q : Addr) (t : State) (mc ms : Nat) (free : Addr → Prop) : Prop :=
  ∃ (E : String) (ce : Cell) (L : List Loc), XC E st t ∧ t.heap[q]? = some ce ∧ ce.vm = .none ∧ st.vm.findClass E = some ce.cls ∧ st.WarmedH t.vm ∧ st.sameButNew ({ t with vm := st.vm } : State) L mc ms ∧ ∀ z ∈ L, free z.base
def vx_Q (Qc : Array Value → State → Outcome → State → Prop) (XC : String → State → State → Prop) (mc ms : Nat) (free : Addr → Prop) : Array Value → State → Outcome → State → Prop := fun a st o t =>
  (Qc a st o t ∧ ∃ L, FrameEnd st o t L mc ms ∧ ∀ q ∈ L, free q.base) ∨ ∃ q, o = .threw q ∧ vx_T XC st q t mc ms free
/-- a callee that returns or throws -/
def vx_Met (l : Launch) (y : MethodName) (ws : List Cond) (rm : Room) (Pc : Array Value → State → Prop) (Qc : Array Value → State → Outcome → State → Prop) (XC : String → State → State → Prop) (mc ms : Nat) (free : Addr → Prop) : Prop :=
  MetFree l y (headSpec ws rm) Pc (fun _ _ _ _ _ => True) (vx_Q Qc XC mc ms free)
def vx_Post (XC : String → State → State → Prop) (mc ms : Nat) (free : Addr → Prop) : Pt → Array Value → Addr → Pt → Prop := fun A a q B =>
  ∃ (g : JFrame) (mk : MethodId) (t : State) (L : List Loc) (E : String) (ce : Cell), B.U.heap = t.heap ∧ B.U.vm = t.vm ∧ XC E (A.U.calling g mk a) t ∧ t.heap[q]? = some ce ∧ ce.vm = .none ∧ A.U.vm.findClass E = some ce.cls ∧ B.locs = A.locs ++ L ∧ (∀ z ∈ L, free z.base) ∧ B.cells = A.cells + mc ∧ B.slots = A.slots + ms
def vx_Back (l : Launch) (R : Room) (p : Program) (e : Env) (below : List Frame) (s : State) (sargs : Array Value) (y : MethodName) (len W9 : Nat)
    (Pre : Pt → Array Value → Prop) (Post : Pt → Array Value → Option Value → Pt → Prop) (PostX : Pt → Array Value → Addr → Pt → Prop) : Prop :=
  ∀ (m : MethodId) (meth : Method) (c : Code) (A : Pt) (g : JFrame) (ig : Instr) (mk : MethodId) (a : Array Value),
    Stand p l e R s m sargs below meth c A.U A.locs A.cells A.slots → g.method = m → g.locals.size = c.maxLocals → decode c.code g.pc = .ok (ig, len) →
    2 * g.monitorRoom + (g.stack.map fun v => v.category).sum ≤ W9 → A.U.methodNamed? y = some mk → Pre A a →
    (∃ (v : Option Value) (B : Pt), Stand p l e R s m sargs below meth c B.U B.locs B.cells B.slots ∧ Post A a v B ∧
      Steps p.tables e below (doInvoke e (A.U.setTop g) [] mk a).1 (B.U.setTop { g with pc := g.pc + len, stack := v.toList ++ g.stack })) ∨
    (∃ (q : Addr) (B : Pt), Stand p l e R s m sargs below meth c B.U B.locs B.cells B.slots ∧ PostX A a q B ∧
      Steps p.tables e below (doInvoke e (A.U.setTop g) [] mk a).1 ((B.U.setTop g).pushFrame (.throwing q)))
section Payer
variable {l : Launch} {R : Room} {p : Program} {e : Env} {below : List Frame} {s : State} {sargs : Array Value} {y : MethodName} {len W9 : Nat}
theorem vx_back {ws : List Cond} {rm : Room} {Pc : Array Value → State → Prop} {Qc : Array Value → State → Outcome → State → Prop} {XC : String → State → State → Prop} {mc ms : Nat} {free : Addr → Prop} {bytes : ByteArray} {maxL : Nat} {ret : Option FieldType}
    (hM : vx_Met l y ws rm Pc Qc XC mc ms free) (hblind : FrameBlind Pc) (hrc : rm.cells = mc) (hrs : rm.slots = ms)
    (hframes : rm.frames + 1 ≤ R.frames) (hlocals : W9 + (maxL + 11) + rm.locals ≤ R.locals)
    (hws : ∀ w ∈ ws, ∀ a' U, s.WarmedH U.vm → w.before a' U = true) (hcode : Cond.code y bytes maxL ret ∈ ws) (hinit : ∀ a' U, s.WarmedH U.vm → (Cond.initialized y.cls).before a' U = true) :
    vx_Back l R p e below s sargs y len W9 (PreOf R mc ms Pc) (PostOf Qc mc ms free) (vx_Post XC mc ms free) := by
  intro m meth c A g ig mk a X hg hsize hdg hW hn hp
  have h1 : (headSpec ws rm).pre.before a A.U = true := atoms_intro fun w hw => hws w hw _ _ X.warmed
  have h2 : (Cond.code y bytes maxL ret).before a A.U = true := hws _ hcode _ _ X.warmed
  have h3 : (Cond.initialized y.cls).before a A.U = true := hinit _ _ X.warmed
  have h4 : A.cells + (headSpec ws rm).room.cells ≤ R.cells := by rw [show (headSpec ws rm).room.cells = mc from hrc]; exact hp.1
  have h5 : A.slots + (headSpec ws rm).room.slots ≤ R.slots := by rw [show (headSpec ws rm).room.slots = ms from hrs]; exact hp.2.1
  have hPc : Pc a (A.U.calling g mk a) := hblind _ _ _ _ hp.2.2
  obtain ⟨U, Ls, c0, s0⟩ := A
  dsimp only [Pt.U, Pt.locs, Pt.cells, Pt.slots] at h1 h2 h3 h4 h5 X hn hPc ⊢
  obtain ⟨methY, cY, hmY, hcY, -, hlY, -, -, -, -⟩ := Cond.code_spec hn h2
  obtain ⟨kY, hkY, -⟩ := className_of_methodNamed hn
  have hinitY : kY.init = .initialized := Cond.initialized_spec (findClass_of_methodNamed hn) hkY h3
  have h : At U g.method c below := by rw [hg]; exact X.here
  have hlocals9 : W9 + (maxL + 11) + (headSpec ws rm).room.locals ≤ R.locals := hlocals
  have happ : (headSpec ws rm).appliesLoose y e.platform (U.calling g mk a) = true :=
    Spec.appliesLoose_calling (g := g) h hdg hn hkY hinitY
      (X.room_calling (g := g) (R' := (headSpec ws rm).room) hsize hmY hcY hframes (by rw [hlY]; omega) h4 h5) h1
  obtain ⟨mid, hmid⟩ := h.above
  have hfr : (U.setTop g).frames = (.java g :: mid) ++ below := by rw [State.frames_setTop' g h.top, hmid]; rfl
  obtain ⟨o, s₂, hsteps, -, hend, hq⟩ := Steps.callFree hM p X.admits X.cas X.clock (acts := []) hfr happ hPc trivial
  have hq' : vx_Q Qc XC mc ms free a (U.calling g mk a) o s₂ := hq
  rw [State.frames_setTop' g h.top] at hend
  obtain ⟨g₀, hg0⟩ := Option.isSome_iff_exists.mp h.top
  obtain ⟨r, hr⟩ := State.topJava?_eq_some.mp hg0
  have hr' : (({ U with heap := s₂.heap, slotsUsed := s₂.slotsUsed } : State).setVm s₂.vm).frames = .java g₀ :: r := hr
  rcases hq' with ⟨hqc, L, hfe, hL⟩ | ⟨q, rfl, E, ce, L, hx, hce, hcv, hcl, hW₂, hsm, hL⟩
  · obtain ⟨⟨v, rfl⟩, hW₂, e2, q2, q3, q4, q5, q6⟩ := id hfe
    have e3 : s₂ = ({ (U.calling g mk a).setFrames s₂.frames with heap := s₂.heap, slotsUsed := s₂.slotsUsed } : State).setVm s₂.vm := by
      have : s₂ = ({ s₂ with vm := (U.calling g mk a).vm } : State).setVm s₂.vm := rfl
      rw [e2] at this
      exact this
    obtain ⟨c₂, i₂, len₂, hc₂, hd₂, hf₂⟩ := hend
    have hW' : U.WarmedH s₂.vm := hW₂
    have hcc : c₂ = c := by
      have h1 : s₂.code? g.method = U.code? g.method := by
        rw [State.code?_eq, State.code?_eq, hW'.alike.method?]
      exact Option.some.inj (hc₂.symm.trans (h1.trans h.code))
    subst hcc
    have hlen : len₂ = len := by rw [hdg] at hd₂; cases hd₂; rfl
    subst hlen
    have hs₂ : s₂ = (({ U with heap := s₂.heap, slotsUsed := s₂.slotsUsed } : State).setVm s₂.vm).setTop { g with pc := g.pc + len₂, stack := v.toList ++ g.stack } := by
      refine e3.trans ?_
      rw [hf₂, State.calling_eq h.top, State.setFrames_setFrames, State.setTop_of_frames _ hr', hr]
      rfl
    have hsame : U.sameButNew ({ U with heap := s₂.heap, slotsUsed := s₂.slotsUsed } : State) L mc ms := by
      refine ⟨?_, q2, q3, q4, q5, q6⟩
      obtain ⟨t, ht, -⟩ := State.frames_cons hr
      show ({ U with heap := s₂.heap, slotsUsed := s₂.slotsUsed } : State) = { U.setFrames U.frames with heap := s₂.heap, slotsUsed := s₂.slotsUsed }
      rw [State.setFrames_self ht]
    subst hg
    refine Or.inl ⟨v, ⟨(({ U with heap := s₂.heap, slotsUsed := s₂.slotsUsed } : State).setVm s₂.vm), Ls ++ L, c0 + mc, s0 + ms⟩,
      ⟨X.admits, X.cas, X.clock, X.frames, X.room, X.hears, X.method, X.code, (X.here.setHeapUsed s₂.heap s₂.slotsUsed).setVm hW'.alike, X.tail, State.WarmedH.trans X.warmed hW', X.limits, X.bytes, X.same.trans (hsame.setVm s.vm)⟩,
      ⟨g, mk, s₂, L, rfl, rfl, hqc, rfl, hL, rfl, rfl⟩, ?_⟩
    show Steps p.tables e below _ ((({ U with heap := s₂.heap, slotsUsed := s₂.slotsUsed } : State).setVm s₂.vm).setTop { g with pc := g.pc + len₂, stack := v.toList ++ g.stack })
    rw [← hs₂]
    exact hsteps
  · obtain ⟨e2, q2, q3, q4, q5, q6⟩ := id hsm
    have e3 : s₂ = ({ (U.calling g mk a).setFrames s₂.frames with heap := s₂.heap, slotsUsed := s₂.slotsUsed } : State).setVm s₂.vm := by
      have : s₂ = ({ s₂ with vm := (U.calling g mk a).vm } : State).setVm s₂.vm := rfl
      rw [e2] at this
      exact this
    have hf₂ : s₂.frames = .throwing q :: .java g :: U.frames.tail := hend
    have hW' : U.WarmedH s₂.vm := hW₂
    have hs₂ : s₂ = ((({ U with heap := s₂.heap, slotsUsed := s₂.slotsUsed } : State).setVm s₂.vm).setTop g).pushFrame (.throwing q) := by
      refine e3.trans ?_
      rw [hf₂, State.calling_eq h.top, State.setFrames_setFrames, State.pushFrame, State.frames_setTop _ hr', State.setTop_of_frames _ hr', State.setFrames_setFrames, hr]
      rfl
    have hsame : U.sameButNew ({ U with heap := s₂.heap, slotsUsed := s₂.slotsUsed } : State) L mc ms := by
      refine ⟨?_, q2, q3, q4, q5, q6⟩
      obtain ⟨t, ht, -⟩ := State.frames_cons hr
      show ({ U with heap := s₂.heap, slotsUsed := s₂.slotsUsed } : State) = { U.setFrames U.frames with heap := s₂.heap, slotsUsed := s₂.slotsUsed }
      rw [State.setFrames_self ht]
    subst hg
    refine Or.inr ⟨q, ⟨(({ U with heap := s₂.heap, slotsUsed := s₂.slotsUsed } : State).setVm s₂.vm), Ls ++ L, c0 + mc, s0 + ms⟩,
      ⟨X.admits, X.cas, X.clock, X.frames, X.room, X.hears, X.method, X.code, (X.here.setHeapUsed s₂.heap s₂.slotsUsed).setVm hW'.alike, X.tail, State.WarmedH.trans X.warmed hW', X.limits, X.bytes, X.same.trans (hsame.setVm s.vm)⟩,
      ⟨g, mk, s₂, L, E, ce, rfl, rfl, hx, hce, hcv, hcl, rfl, hL, rfl, rfl⟩, ?_⟩
    show Steps p.tables e below _ (((({ U with heap := s₂.heap, slotsUsed := s₂.slotsUsed } : State).setVm s₂.vm).setTop g).pushFrame (.throwing q))
    rw [← hs₂]
    exact hsteps
end Payer
section Calls
variable {p : Program} {l : Launch} {e : Env} {R : Room} {s : State} {m : MethodId} {args : Array Value} {below : List Frame} {meth : Method} {c : Code} {T : State} {locs : List Loc} {cells slots : Nat}
theorem vx_callV (X : Stand p l e R s m args below meth c T locs cells slots) (hexec : p.tables.exec = Jvm.exec) {own C : String} {index : Nat} {y : MethodName} {bytes : ByteArray} {maxL : Nat} {ret : Option FieldType}
    (hown : s.vm.findClass own = some m.cls) (hlink : (Cond.methodLink own index y).before args s = true) (hinst : (Cond.instanceMethod y).before args s = true) (hsel : (Cond.selects C y y).before args s = true)
    (hcode : (Cond.code y bytes maxL ret).before args s = true) (hy : y.cls ≠ "java/lang/invoke/MethodHandle" ∧ y.cls ≠ "java/lang/invoke/VarHandle")
    {W9 : Nat} {Pre : Pt → Array Value → Prop} {Post : Pt → Array Value → Option Value → Pt → Prop} {PostX : Pt → Array Value → Addr → Pt → Prop} (hK : vx_Back l R p e below s args y 3 W9 Pre Post PostX)
    {b : Addr} {cellB : Cell} (hcell : T.heap[b]? = some cellB) (hobj : cellB.vm.isStatics = false) (hcls : s.vm.findClass C = some cellB.cls)
    {g : JFrame} (hg : g.method = m) (hsize : g.locals.size = c.maxLocals) {argsL rest : List Value} (hlen : ∀ sig, parseMethodDescriptor y.desc = some sig → argsL.length = sig.parameters.length)
    (hstack : g.stack = argsL.reverse ++ .ref b :: rest) (hW : 2 * g.monitorRoom + (rest.map fun v => v.category).sum ≤ W9) (hdg : decode c.code g.pc = .ok (.invokevirtual index, 3))
    (hpre : ∀ vm₁, s.WarmedH vm₁ → Pre ⟨T.setVm vm₁, locs, cells, slots⟩ (Value.ref b :: argsL).toArray) :
    (∃ (v : Option Value) (vm₁ : Vm) (B : Pt), s.WarmedH vm₁ ∧ Stand p l e R s m args below meth c B.U B.locs B.cells B.slots ∧ Post ⟨T.setVm vm₁, locs, cells, slots⟩ (Value.ref b :: argsL).toArray v B ∧
      ∀ target, Steps p.tables e below (B.U.setTop { g with pc := g.pc + 3, stack := v.toList ++ rest }) target → Steps p.tables e below (T.setTop g) target) ∨
    (∃ (q : Addr) (vm₁ : Vm) (B : Pt), s.WarmedH vm₁ ∧ Stand p l e R s m args below meth c B.U B.locs B.cells B.slots ∧ PostX ⟨T.setVm vm₁, locs, cells, slots⟩ (Value.ref b :: argsL).toArray q B ∧
      Steps p.tables e below (T.setTop g) ((B.U.setTop { g with stack := rest }).pushFrame (.throwing q))) := by
  obtain ⟨mk, methM, hnamed, hmethM, hstM, habM⟩ := Cond.instanceMethod_spec hinst
  obtain ⟨methM', cM, hmethM', -, -, -, -, -, -, hsigM⟩ := Cond.code_spec hnamed hcode
  cases hmethM.symm.trans hmethM'
  obtain ⟨c2, r2, m2, q1, q2, q3, q4, kP, hkP, hkPi⟩ := Cond.selects_spec hsel
  cases hcls.symm.trans q1
  cases (State.methodFound?_of_named hnamed hy).symm.trans q2
  cases hnamed.symm.trans q3
  have hselP : selectMethod e.platform s.vm cellB.cls mk = .method mk := by rw [Launch.admits_selectMethod X.admits]; exact q4
  obtain ⟨vm₁, X₁, hstep₁⟩ := X.invokevirtual hexec hown hlink hnamed hmethM hstM hkP hkPi hy (a := b) (cell := cellB) hcell
    (fun z h => by rw [h] at hobj; cases hobj) hselP hmethM habM hkP hkPi (g := g) hg (argsL := argsL) (rest := rest) (hlen _ hsigM) hstack hdg
  rcases hK m meth c ⟨T.setVm vm₁, locs, cells, slots⟩ { g with stack := rest } (.invokevirtual index) mk (Value.ref b :: argsL).toArray X₁ hg hsize hdg hW (X₁.named hnamed) (hpre vm₁ X₁.warmed) with ⟨v, B, X', hpost, hsteps⟩ | ⟨q, B, X', hpost, hsteps⟩
  · exact Or.inl ⟨v, vm₁, B, X₁.warmed, X', hpost, fun target h => hstep₁ _ fun acts => by rw [doInvoke_state]; exact hsteps.trans h⟩
  · exact Or.inr ⟨q, vm₁, B, X₁.warmed, X', hpost, hstep₁ _ fun acts => by rw [doInvoke_state]; exact hsteps⟩
theorem vx_callS (X : Stand p l e R s m args below meth c T locs cells slots) (hexec : p.tables.exec = Jvm.exec) {own : String} {index : Nat} {y : MethodName} {bytes : ByteArray} {maxL : Nat} {ret : Option FieldType}
    (hown : s.vm.findClass own = some m.cls) (hlink : (Cond.methodLink own index y).before args s = true) (hstat : (Cond.static y).before args s = true) (hinit : (Cond.initialized y.cls).before args s = true)
    (hcode : (Cond.code y bytes maxL ret).before args s = true) (hy : y.cls ≠ "java/lang/invoke/MethodHandle" ∧ y.cls ≠ "java/lang/invoke/VarHandle")
    {W9 : Nat} {Pre : Pt → Array Value → Prop} {Post : Pt → Array Value → Option Value → Pt → Prop} {PostX : Pt → Array Value → Addr → Pt → Prop} (hK : vx_Back l R p e below s args y 3 W9 Pre Post PostX)
    {g : JFrame} (hg : g.method = m) (hsize : g.locals.size = c.maxLocals) {argsL rest : List Value} (hlen : ∀ sig, parseMethodDescriptor y.desc = some sig → argsL.length = sig.parameters.length)
    (hstack : g.stack = argsL.reverse ++ rest) (hW : 2 * g.monitorRoom + (rest.map fun v => v.category).sum ≤ W9) (hdg : decode c.code g.pc = .ok (.invokestatic index, 3))
    (hpre : ∀ vm₁, s.WarmedH vm₁ → Pre ⟨T.setVm vm₁, locs, cells, slots⟩ argsL.toArray) :
    (∃ (v : Option Value) (vm₁ : Vm) (B : Pt), s.WarmedH vm₁ ∧ Stand p l e R s m args below meth c B.U B.locs B.cells B.slots ∧ Post ⟨T.setVm vm₁, locs, cells, slots⟩ argsL.toArray v B ∧
      ∀ target, Steps p.tables e below (B.U.setTop { g with pc := g.pc + 3, stack := v.toList ++ rest }) target → Steps p.tables e below (T.setTop g) target) ∨
    (∃ (q : Addr) (vm₁ : Vm) (B : Pt), s.WarmedH vm₁ ∧ Stand p l e R s m args below meth c B.U B.locs B.cells B.slots ∧ PostX ⟨T.setVm vm₁, locs, cells, slots⟩ argsL.toArray q B ∧
      Steps p.tables e below (T.setTop g) ((B.U.setTop { g with stack := rest }).pushFrame (.throwing q))) := by
  obtain ⟨mk, hnamed⟩ := Cond.code_named hcode
  obtain ⟨methM, cM, hmethM, -, -, -, -, -, -, hsigM⟩ := Cond.code_spec hnamed hcode
  have hstatic : methM.isStatic = true := Cond.static_spec hnamed hmethM hstat
  obtain ⟨kP, hkP, -⟩ := className_of_methodNamed hnamed
  have hinitP : kP.init = .initialized := Cond.initialized_spec (findClass_of_methodNamed hnamed) hkP hinit
  obtain ⟨vm₁, X₁, hstep₁⟩ := X.invokestatic hexec hown hlink hnamed hmethM hstatic hkP hinitP hy (g := g) hg (argsL := argsL) (rest := rest) (hlen _ hsigM) hstack hdg
  rcases hK m meth c ⟨T.setVm vm₁, locs, cells, slots⟩ { g with stack := rest } (.invokestatic index) mk argsL.toArray X₁ hg hsize hdg hW (X₁.named hnamed) (hpre vm₁ X₁.warmed) with ⟨v, B, X', hpost, hsteps⟩ | ⟨q, B, X', hpost, hsteps⟩
  · exact Or.inl ⟨v, vm₁, B, X₁.warmed, X', hpost, fun target h => hstep₁ _ fun acts => by rw [doInvoke_state]; exact hsteps.trans h⟩
  · exact Or.inr ⟨q, vm₁, B, X₁.warmed, X', hpost, hstep₁ _ fun acts => by rw [doInvoke_state]; exact hsteps⟩
end Calls
theorem vx_cls {s : State} {T : State} {vm₁ : Vm} {E : String} {k : ClassId} (hW : s.WarmedH vm₁) (h : (T.setVm vm₁).vm.findClass E = some k) : s.vm.findClass E = some k := by
  have h1 : vm₁.findClass E = some k := h
  rw [hW.alike.findClass] at h1
  exact h1
/-- the method's frame g, with q thrown over it -/
def vx_W (p : Program) (l : Launch) (e : Env) (R : Room) (s : State) (m : MethodId) (args : Array Value) (below : List Frame) (meth : Method) (c : Code) (H : Heap) (locs : List Loc) (cells slots : Nat) (Q : State → Prop) (g : JFrame) (q : Addr) : Prop :=
  ∀ T : State, T.heap = H → Stand p l e R s m args below meth c T locs cells slots → ∃ t, Steps p.tables e below ((T.setTop g).pushFrame (.throwing q)) t ∧ Q t
def vx_Run (p : Program) (l : Launch) (e : Env) (R : Room) (s : State) (m : MethodId) (args : Array Value) (below : List Frame) (meth : Method) (c : Code) (H : Heap) (locs : List Loc) (cells slots mc ms : Nat) (g : JFrame) (rest : List Value) (Qa : State → Outcome → State → Prop) (XC : String → State → State → Prop) (free : Addr → Prop) : Prop :=
  ∀ T : State, T.heap = H → Stand p l e R s m args below meth c T locs cells slots →
    (∃ (v : Option Value) (st₀ t T' : State) (L : List Loc), st₀.heap = H ∧ Stand p l e R s m args below meth c T' (locs ++ L) (cells + mc) (slots + ms) ∧ (∀ q ∈ L, free q.base) ∧ T'.heap = t.heap ∧ T'.vm = t.vm ∧ Qa st₀ (.returned v) t ∧
      Goes p e below T g T' { g with pc := g.pc + 3, stack := v.toList ++ rest }) ∨
    (∃ (q : Addr) (st₀ t T' : State) (L : List Loc) (E : String) (ce : Cell), st₀.heap = H ∧ Stand p l e R s m args below meth c T' (locs ++ L) (cells + mc) (slots + ms) ∧ (∀ z ∈ L, free z.base) ∧ T'.heap = t.heap ∧ T'.vm = t.vm ∧ XC E st₀ t ∧ t.heap[q]? = some ce ∧ ce.vm = .none ∧ s.vm.findClass E = some ce.cls ∧
      Steps p.tables e below (T.setTop g) ((T'.setTop { g with stack := rest }).pushFrame (.throwing q)))
def vx_X {S : Type} (px : S → Prop) (B : String → S → State → Prop) (A : Nat → Prop) : String → State → State → Prop := fun E st t => ∃ u : S, px u ∧ B E u t ∧ va_F A st t
section Runs
variable {p : Program} {l : Launch} {e : Env} {R : Room} {s : State} {m : MethodId} {args : Array Value} {below : List Frame} {meth : Method} {c : Code} {H : Heap} {locs : List Loc} {cells slots : Nat}
variable {y : MethodName} {bytes cc : ByteArray} {maxL nL mc ms n index : Nat} {ret : Option FieldType} {ws : List Cond} {rm : Room} {Pc : Array Value → State → Prop} {Qc : Array Value → State → Outcome → State → Prop} {XC : String → State → State → Prop} {free : Addr → Prop} {Ts : List Cond} {own C : String} {b : Addr} {As rest : List Value} {g : JFrame}
theorem vx_callBack (cb : CallB R s args own index y bytes maxL ret ws rm mc ms n) (hM : vx_Met l y ws rm Pc Qc XC mc ms free) (hbl : FrameBlind Pc) : vx_Back l R p e below s args y 3 8 (PreOf R mc ms Pc) (PostOf Qc mc ms free) (vx_Post XC mc ms free) := by
  obtain ⟨hrc, hrs, hfr, hlo, hws, hcw, -, hini, -⟩ := cb
  exact vx_back (bytes := bytes) (maxL := maxL) (ret := ret) hM hbl hrc hrs hfr hlo hws hcw (fun a' U hW => word_at hW (Or.inl (by first | rfl | simp [Cond.onTables, Cond.keeps, Cond.steady])) hini)
theorem vx_runV (S : CallFix p m c cc nL s args Ts own) (hM : vx_Met l y ws rm Pc Qc XC mc ms free) (cw : CallW R s args own C index y bytes maxL ret ws rm mc ms n) (hp : PreV s H C b Pc As)
    (hg : g.method = m) (hn : As.length = n) (hsize : g.locals.size = nL) (hstack : g.stack = As.reverse ++ .ref b :: rest) (hW : 2 * g.monitorRoom + (rest.map fun v => v.category).sum ≤ 8) (hdg : decode cc g.pc = .ok (.invokevirtual index, 3)) (hf : cells + mc ≤ R.cells ∧ slots + ms ≤ R.slots) :
    vx_Run p l e R s m args below meth c H locs cells slots mc ms g rest (Qc (Value.ref b :: As).toArray) XC free := by
  have hK : vx_Back l R p e below s args y 3 8 (PreOf R mc ms Pc) (PostOf Qc mc ms free) (vx_Post XC mc ms free) := vx_callBack cw.1 hM hp.1
  obtain ⟨⟨-, -, -, -, -, -, hcode, -, hy, hlen, hl⟩, hin, hse⟩ := cw
  obtain ⟨hx, hb, hml, ho, -⟩ := S
  obtain ⟨-, ⟨cellB, hcB, hoB, hclB⟩, hPc⟩ := hp
  intro T hT X
  rcases vx_callV X hx (C := C) (bytes := bytes) (maxL := maxL) (ret := ret) ho hl hin hse hcode hy hK (by rw [hT]; exact hcB) hoB hclB hg (hsize.trans hml.symm) (argsL := As) (rest := rest) (fun sig h => hn.trans (hlen sig h)) hstack hW (by rw [hb]; exact hdg)
    (fun vm₁ hW₁ => ⟨hf.1, hf.2, hPc (T.setVm vm₁) hT hW₁⟩) with ⟨v, vm₁, ⟨U', l2, c2, s2⟩, hW₁, X', ⟨g', mk, t, L, e1, e2, hq, h1, hL, h2, h3⟩, st⟩ | ⟨q, vm₁, ⟨U', l2, c2, s2⟩, hW₁, X', ⟨g', mk, t, L, E, ce, e1, e2, hq, hce, hcv, hcl, h1, hL, h2, h3⟩, st⟩
  · dsimp only [Pt.U, Pt.locs, Pt.cells, Pt.slots] at X' e1 e2 h1 h2 h3 st
    subst h1; subst h2; subst h3
    exact Or.inl ⟨v, (T.setVm vm₁).calling g' mk (Value.ref b :: As).toArray, t, U', L, hT, X', hL, e1, e2, hq, st⟩
  · dsimp only [Pt.U, Pt.locs, Pt.cells, Pt.slots] at X' e1 e2 h1 h2 h3 st hcl
    subst h1; subst h2; subst h3
    exact Or.inr ⟨q, (T.setVm vm₁).calling g' mk (Value.ref b :: As).toArray, t, U', L, E, ce, hT, X', hL, e1, e2, hq, hce, hcv, vx_cls hW₁ hcl, st⟩
theorem vx_runS (S : CallFix p m c cc nL s args Ts own) (hM : vx_Met l y ws rm Pc Qc XC mc ms free) (cw : CallB R s args own index y bytes maxL ret ws rm mc ms n ∧ (Cond.static y).before args s = true) (hp : PreS s H Pc As)
    (hg : g.method = m) (hn : As.length = n) (hsize : g.locals.size = nL) (hstack : g.stack = As.reverse ++ rest) (hW : 2 * g.monitorRoom + (rest.map fun v => v.category).sum ≤ 8) (hdg : decode cc g.pc = .ok (.invokestatic index, 3)) (hf : cells + mc ≤ R.cells ∧ slots + ms ≤ R.slots) :
    vx_Run p l e R s m args below meth c H locs cells slots mc ms g rest (Qc As.toArray) XC free := by
  have hK : vx_Back l R p e below s args y 3 8 (PreOf R mc ms Pc) (PostOf Qc mc ms free) (vx_Post XC mc ms free) := vx_callBack cw.1 hM hp.1
  obtain ⟨⟨-, -, -, -, -, -, hcode, hini, hy, hlen, hl⟩, hstt⟩ := cw
  obtain ⟨hx, hb, hml, ho, -⟩ := S
  intro T hT X
  rcases vx_callS X hx (bytes := bytes) (maxL := maxL) (ret := ret) ho hl hstt hini hcode hy hK hg (hsize.trans hml.symm) (argsL := As) (rest := rest) (fun sig h => hn.trans (hlen sig h)) hstack hW (by rw [hb]; exact hdg)
    (fun vm₁ hW₁ => ⟨hf.1, hf.2, hp.2 (T.setVm vm₁) hT hW₁⟩) with ⟨v, vm₁, ⟨U', l2, c2, s2⟩, hW₁, X', ⟨g', mk, t, L, e1, e2, hq, h1, hL, h2, h3⟩, st⟩ | ⟨q, vm₁, ⟨U', l2, c2, s2⟩, hW₁, X', ⟨g', mk, t, L, E, ce, e1, e2, hq, hce, hcv, hcl, h1, hL, h2, h3⟩, st⟩
  · dsimp only [Pt.U, Pt.locs, Pt.cells, Pt.slots] at X' e1 e2 h1 h2 h3 st
    subst h1; subst h2; subst h3
    exact Or.inl ⟨v, (T.setVm vm₁).calling g' mk As.toArray, t, U', L, hT, X', hL, e1, e2, hq, st⟩
  · dsimp only [Pt.U, Pt.locs, Pt.cells, Pt.slots] at X' e1 e2 h1 h2 h3 st hcl
    subst h1; subst h2; subst h3
    exact Or.inr ⟨q, (T.setVm vm₁).calling g' mk As.toArray, t, U', L, E, ce, hT, X', hL, e1, e2, hq, hce, hcv, vx_cls hW₁ hcl, st⟩
end Runs
section Rows
variable {p : Program} {l : Launch} {e : Env} {R : Room} {s : State} {m : MethodId} {args : Array Value} {below : List Frame} {meth : Method} {c : Code} {H : Heap} {locs : List Loc} {cells slots : Nat} {Q : State → Prop}
variable {mc ms : Nat} {free : Addr → Prop} {A0 A1 : Nat → Prop} {H0 : Heap} {a : Array Value} {pc : Nat} {ls : Array Slot} {st0 rest : List Value}
theorem vx_keep {st₀ t T' : State} {L : List Loc} (h0 : st₀.heap = H) (e1 : T'.heap = t.heap) (hS : va_S A0 H0 H locs) (hA : ∀ q, q < H.size → A1 q → A0 q) (hf : ∀ q, free q → A0 q) (hL : ∀ q ∈ L, free q.base) (hF : va_F A1 st₀ t) :
    H.size ≤ T'.heap.size ∧ (∀ q : Nat, q < H.size → ¬ A1 q → T'.heap[q]? = H[q]?) ∧ va_S A0 H0 T'.heap (locs ++ L) := by
  obtain ⟨hz, hk⟩ := hF
  rw [h0] at hz hk
  exact ⟨by rw [e1]; exact hz, fun q h1 h2 => by rw [e1]; exact hk q h1 h2,
    ⟨Nat.le_trans hS.1 (by rw [e1]; exact hz), fun q h1 h2 => by rw [e1, hk q (Nat.lt_of_lt_of_le h1 hS.1) (fun z => h2 (hA q (Nat.lt_of_lt_of_le h1 hS.1) z))]; exact hS.2.1 q h1 h2, fun q hq => by
      rcases List.mem_append.mp hq with h | h
      · exact hS.2.2 q h
      · exact hf _ (hL q h)⟩⟩
theorem vx_calli {S SX : Type} {post : Int32 → S → Prop} {px : SX → Prop} {B : S → State → Prop} {BX : String → SX → State → Prop} {AX : Nat → Prop} (hr : vx_Run p l e R s m args below meth c H locs cells slots mc ms (F0 m pc ls st0) rest (va_Qi post B A1 a) (vx_X px BX AX) free) (hS : va_S A0 H0 H locs) (hA : ∀ q, q < H.size → A1 q → A0 q) (hf : ∀ q, free q → A0 q) (hAX : ∀ q, q < H.size → AX q → A0 q)
    (kx : ∀ (E : String) (ce : Cell) (q9 : Addr) (u : SX) (t : State) (H1 : Heap) (locs1 : List Loc), t.heap = H1 → s.vm.Alike t.vm → px u → BX E u t → H.size ≤ H1.size → (∀ q : Nat, q < H.size → ¬ AX q → H1[q]? = H[q]?) → va_S A0 H0 H1 locs1 → H1[q9]? = some ce → ce.vm = .none → s.vm.findClass E = some ce.cls → vx_W p l e R s m args below meth c H1 locs1 (cells + mc) (slots + ms) Q (F0 m pc ls rest) q9)
    (kk : ∀ (r : Int32) (u : S) (t : State) (H1 : Heap) (locs1 : List Loc), t.heap = H1 → s.vm.Alike t.vm → post r u → B u t → H.size ≤ H1.size → (∀ q : Nat, q < H.size → ¬ A1 q → H1[q]? = H[q]?) → va_S A0 H0 H1 locs1 → W p l e R s m args below meth c H1 locs1 (cells + mc) (slots + ms) Q (F0 m (pc + 3) ls (.int r :: rest))) : W p l e R s m args below meth c H locs cells slots Q (F0 m pc ls st0) := by
  intro T hT X
  rcases hr T hT X with ⟨v, st₀, t, T', L, h0, X', hL, e1, e2, ⟨⟨r, u, hv, hp, hb⟩, hF⟩, st⟩ | ⟨q, st₀, t, T', L, E, ce, h0, X', hL, e1, e2, ⟨u, hp, hb, hF⟩, hce, hcv, hcl, st⟩
  · cases hv
    obtain ⟨k1, k2, k3⟩ := vx_keep h0 e1 hS hA hf hL hF
    obtain ⟨t2, a1, b1⟩ := kk r u t T'.heap (locs ++ L) e1.symm (by rw [← e2]; exact X'.warmed.alike) hp hb k1 k2 k3 T' rfl X'
    exact ⟨t2, st t2 a1, b1⟩
  · obtain ⟨k1, k2, k3⟩ := vx_keep h0 e1 hS hAX hf hL hF
    obtain ⟨t2, a1, b1⟩ := kx E ce q u t T'.heap (locs ++ L) e1.symm (by rw [← e2]; exact X'.warmed.alike) hp hb k1 k2 k3 (by rw [e1]; exact hce) hcv hcl T' rfl X'
    exact ⟨t2, st.trans a1, b1⟩
theorem vx_calll {S SX : Type} {post : Int64 → S → Prop} {px : SX → Prop} {B : S → State → Prop} {BX : String → SX → State → Prop} {AX : Nat → Prop} (hr : vx_Run p l e R s m args below meth c H locs cells slots mc ms (F0 m pc ls st0) rest (va_Ql post B A1 a) (vx_X px BX AX) free) (hS : va_S A0 H0 H locs) (hA : ∀ q, q < H.size → A1 q → A0 q) (hf : ∀ q, free q → A0 q) (hAX : ∀ q, q < H.size → AX q → A0 q)
    (kx : ∀ (E : String) (ce : Cell) (q9 : Addr) (u : SX) (t : State) (H1 : Heap) (locs1 : List Loc), t.heap = H1 → s.vm.Alike t.vm → px u → BX E u t → H.size ≤ H1.size → (∀ q : Nat, q < H.size → ¬ AX q → H1[q]? = H[q]?) → va_S A0 H0 H1 locs1 → H1[q9]? = some ce → ce.vm = .none → s.vm.findClass E = some ce.cls → vx_W p l e R s m args below meth c H1 locs1 (cells + mc) (slots + ms) Q (F0 m pc ls rest) q9)
    (kk : ∀ (r : Int64) (u : S) (t : State) (H1 : Heap) (locs1 : List Loc), t.heap = H1 → s.vm.Alike t.vm → post r u → B u t → H.size ≤ H1.size → (∀ q : Nat, q < H.size → ¬ A1 q → H1[q]? = H[q]?) → va_S A0 H0 H1 locs1 → W p l e R s m args below meth c H1 locs1 (cells + mc) (slots + ms) Q (F0 m (pc + 3) ls (.long r :: rest))) : W p l e R s m args below meth c H locs cells slots Q (F0 m pc ls st0) := by
  intro T hT X
  rcases hr T hT X with ⟨v, st₀, t, T', L, h0, X', hL, e1, e2, ⟨⟨r, u, hv, hp, hb⟩, hF⟩, st⟩ | ⟨q, st₀, t, T', L, E, ce, h0, X', hL, e1, e2, ⟨u, hp, hb, hF⟩, hce, hcv, hcl, st⟩
  · cases hv
    obtain ⟨k1, k2, k3⟩ := vx_keep h0 e1 hS hA hf hL hF
    obtain ⟨t2, a1, b1⟩ := kk r u t T'.heap (locs ++ L) e1.symm (by rw [← e2]; exact X'.warmed.alike) hp hb k1 k2 k3 T' rfl X'
    exact ⟨t2, st t2 a1, b1⟩
  · obtain ⟨k1, k2, k3⟩ := vx_keep h0 e1 hS hAX hf hL hF
    obtain ⟨t2, a1, b1⟩ := kx E ce q u t T'.heap (locs ++ L) e1.symm (by rw [← e2]; exact X'.warmed.alike) hp hb k1 k2 k3 (by rw [e1]; exact hce) hcv hcl T' rfl X'
    exact ⟨t2, st.trans a1, b1⟩
theorem vx_callf {S SX : Type} {post : UInt32 → S → Prop} {px : SX → Prop} {B : S → State → Prop} {BX : String → SX → State → Prop} {AX : Nat → Prop} (hr : vx_Run p l e R s m args below meth c H locs cells slots mc ms (F0 m pc ls st0) rest (va_Qf post B A1 a) (vx_X px BX AX) free) (hS : va_S A0 H0 H locs) (hA : ∀ q, q < H.size → A1 q → A0 q) (hf : ∀ q, free q → A0 q) (hAX : ∀ q, q < H.size → AX q → A0 q)
    (kx : ∀ (E : String) (ce : Cell) (q9 : Addr) (u : SX) (t : State) (H1 : Heap) (locs1 : List Loc), t.heap = H1 → s.vm.Alike t.vm → px u → BX E u t → H.size ≤ H1.size → (∀ q : Nat, q < H.size → ¬ AX q → H1[q]? = H[q]?) → va_S A0 H0 H1 locs1 → H1[q9]? = some ce → ce.vm = .none → s.vm.findClass E = some ce.cls → vx_W p l e R s m args below meth c H1 locs1 (cells + mc) (slots + ms) Q (F0 m pc ls rest) q9)
    (kk : ∀ (r : UInt32) (u : S) (t : State) (H1 : Heap) (locs1 : List Loc), t.heap = H1 → s.vm.Alike t.vm → post r u → B u t → H.size ≤ H1.size → (∀ q : Nat, q < H.size → ¬ A1 q → H1[q]? = H[q]?) → va_S A0 H0 H1 locs1 → W p l e R s m args below meth c H1 locs1 (cells + mc) (slots + ms) Q (F0 m (pc + 3) ls (.float r :: rest))) : W p l e R s m args below meth c H locs cells slots Q (F0 m pc ls st0) := by
  intro T hT X
  rcases hr T hT X with ⟨v, st₀, t, T', L, h0, X', hL, e1, e2, ⟨⟨r, u, hv, hp, hb⟩, hF⟩, st⟩ | ⟨q, st₀, t, T', L, E, ce, h0, X', hL, e1, e2, ⟨u, hp, hb, hF⟩, hce, hcv, hcl, st⟩
  · cases hv
    obtain ⟨k1, k2, k3⟩ := vx_keep h0 e1 hS hA hf hL hF
    obtain ⟨t2, a1, b1⟩ := kk r u t T'.heap (locs ++ L) e1.symm (by rw [← e2]; exact X'.warmed.alike) hp hb k1 k2 k3 T' rfl X'
    exact ⟨t2, st t2 a1, b1⟩
  · obtain ⟨k1, k2, k3⟩ := vx_keep h0 e1 hS hAX hf hL hF
    obtain ⟨t2, a1, b1⟩ := kx E ce q u t T'.heap (locs ++ L) e1.symm (by rw [← e2]; exact X'.warmed.alike) hp hb k1 k2 k3 (by rw [e1]; exact hce) hcv hcl T' rfl X'
    exact ⟨t2, st.trans a1, b1⟩
theorem vx_calld {S SX : Type} {post : UInt64 → S → Prop} {px : SX → Prop} {B : S → State → Prop} {BX : String → SX → State → Prop} {AX : Nat → Prop} (hr : vx_Run p l e R s m args below meth c H locs cells slots mc ms (F0 m pc ls st0) rest (va_Qd post B A1 a) (vx_X px BX AX) free) (hS : va_S A0 H0 H locs) (hA : ∀ q, q < H.size → A1 q → A0 q) (hf : ∀ q, free q → A0 q) (hAX : ∀ q, q < H.size → AX q → A0 q)
    (kx : ∀ (E : String) (ce : Cell) (q9 : Addr) (u : SX) (t : State) (H1 : Heap) (locs1 : List Loc), t.heap = H1 → s.vm.Alike t.vm → px u → BX E u t → H.size ≤ H1.size → (∀ q : Nat, q < H.size → ¬ AX q → H1[q]? = H[q]?) → va_S A0 H0 H1 locs1 → H1[q9]? = some ce → ce.vm = .none → s.vm.findClass E = some ce.cls → vx_W p l e R s m args below meth c H1 locs1 (cells + mc) (slots + ms) Q (F0 m pc ls rest) q9)
    (kk : ∀ (r : UInt64) (u : S) (t : State) (H1 : Heap) (locs1 : List Loc), t.heap = H1 → s.vm.Alike t.vm → post r u → B u t → H.size ≤ H1.size → (∀ q : Nat, q < H.size → ¬ A1 q → H1[q]? = H[q]?) → va_S A0 H0 H1 locs1 → W p l e R s m args below meth c H1 locs1 (cells + mc) (slots + ms) Q (F0 m (pc + 3) ls (.double r :: rest))) : W p l e R s m args below meth c H locs cells slots Q (F0 m pc ls st0) := by
  intro T hT X
  rcases hr T hT X with ⟨v, st₀, t, T', L, h0, X', hL, e1, e2, ⟨⟨r, u, hv, hp, hb⟩, hF⟩, st⟩ | ⟨q, st₀, t, T', L, E, ce, h0, X', hL, e1, e2, ⟨u, hp, hb, hF⟩, hce, hcv, hcl, st⟩
  · cases hv
    obtain ⟨k1, k2, k3⟩ := vx_keep h0 e1 hS hA hf hL hF
    obtain ⟨t2, a1, b1⟩ := kk r u t T'.heap (locs ++ L) e1.symm (by rw [← e2]; exact X'.warmed.alike) hp hb k1 k2 k3 T' rfl X'
    exact ⟨t2, st t2 a1, b1⟩
  · obtain ⟨k1, k2, k3⟩ := vx_keep h0 e1 hS hAX hf hL hF
    obtain ⟨t2, a1, b1⟩ := kx E ce q u t T'.heap (locs ++ L) e1.symm (by rw [← e2]; exact X'.warmed.alike) hp hb k1 k2 k3 (by rw [e1]; exact hce) hcv hcl T' rfl X'
    exact ⟨t2, st.trans a1, b1⟩
theorem vx_callv {S SX : Type} {post : S → Prop} {px : SX → Prop} {B : S → State → Prop} {BX : String → SX → State → Prop} {AX : Nat → Prop} (hr : vx_Run p l e R s m args below meth c H locs cells slots mc ms (F0 m pc ls st0) rest (va_Qv post B A1 a) (vx_X px BX AX) free) (hS : va_S A0 H0 H locs) (hA : ∀ q, q < H.size → A1 q → A0 q) (hf : ∀ q, free q → A0 q) (hAX : ∀ q, q < H.size → AX q → A0 q)
    (kx : ∀ (E : String) (ce : Cell) (q9 : Addr) (u : SX) (t : State) (H1 : Heap) (locs1 : List Loc), t.heap = H1 → s.vm.Alike t.vm → px u → BX E u t → H.size ≤ H1.size → (∀ q : Nat, q < H.size → ¬ AX q → H1[q]? = H[q]?) → va_S A0 H0 H1 locs1 → H1[q9]? = some ce → ce.vm = .none → s.vm.findClass E = some ce.cls → vx_W p l e R s m args below meth c H1 locs1 (cells + mc) (slots + ms) Q (F0 m pc ls rest) q9)
    (kk : ∀ (u : S) (t : State) (H1 : Heap) (locs1 : List Loc), t.heap = H1 → s.vm.Alike t.vm → post u → B u t → H.size ≤ H1.size → (∀ q : Nat, q < H.size → ¬ A1 q → H1[q]? = H[q]?) → va_S A0 H0 H1 locs1 → W p l e R s m args below meth c H1 locs1 (cells + mc) (slots + ms) Q (F0 m (pc + 3) ls (rest))) : W p l e R s m args below meth c H locs cells slots Q (F0 m pc ls st0) := by
  intro T hT X
  rcases hr T hT X with ⟨v, st₀, t, T', L, h0, X', hL, e1, e2, ⟨⟨u, hv, hp, hb⟩, hF⟩, st⟩ | ⟨q, st₀, t, T', L, E, ce, h0, X', hL, e1, e2, ⟨u, hp, hb, hF⟩, hce, hcv, hcl, st⟩
  · cases hv
    obtain ⟨k1, k2, k3⟩ := vx_keep h0 e1 hS hA hf hL hF
    obtain ⟨t2, a1, b1⟩ := kk u t T'.heap (locs ++ L) e1.symm (by rw [← e2]; exact X'.warmed.alike) hp hb k1 k2 k3 T' rfl X'
    exact ⟨t2, st t2 a1, b1⟩
  · obtain ⟨k1, k2, k3⟩ := vx_keep h0 e1 hS hAX hf hL hF
    obtain ⟨t2, a1, b1⟩ := kx E ce q u t T'.heap (locs ++ L) e1.symm (by rw [← e2]; exact X'.warmed.alike) hp hb k1 k2 k3 (by rw [e1]; exact hce) hcv hcl T' rfl X'
    exact ⟨t2, st.trans a1, b1⟩
/-- caught by the row x of this method's table; the rows ahead don't take it -/
theorem vx_catch {own name : String} {E : String} {ce : Cell} {q : Addr} (hown : s.vm.findClass own = some m.cls) (pre : List ExceptionTableEntry) (x : ExceptionTableEntry) (suf : List ExceptionTableEntry) (hsplit : c.exceptionTable.toList = pre ++ x :: suf)
    (hpass : ∀ z ∈ pre, covers z pc = false ∨ (z.catchType ≠ 0 ∧ ∃ nm : String, (Cond.classLink own z.catchType nm).before args s = true ∧ va_Nc E nm s)) (hx : covers x pc = true) (h0 : x.catchType ≠ 0)
    (hlink : (Cond.classLink own x.catchType name).before args s = true) (hcast : (Cond.castable E name).before args s = true) (hcell : H[q]? = some ce) (hv : ce.vm = .none) (hcl : s.vm.findClass E = some ce.cls)
    (kk : W p l e R s m args below meth c H locs cells slots Q (F0 m x.handlerPc ls [.ref q])) : vx_W p l e R s m args below meth c H locs cells slots Q (F0 m pc ls rest) q := by
  intro T hT X
  have hpl : e.platform.magicAccessors = ({} : Platform).magicAccessors := by rw [X.admits.platform]
  obtain ⟨c3, c4, hc3, hc4, hasg⟩ := Cond.castable_spec hcast
  cases Option.some.inj (hc3.symm.trans hcl)
  obtain ⟨c5, hc5, hcl5⟩ := Cond.classLink_spec hown hlink e.platform hpl
  cases Option.some.inj (hc4.symm.trans hc5)
  obtain ⟨vm', X', st⟩ := X.thenCaughtThrough q (g := F0 m pc ls rest) rfl (Steps.refl _) (by rw [hT]; exact hcell) (by rw [hv]; rfl) (by obtain ⟨k9, h9, -⟩ := Vm.findClass_spec hcl; exact ⟨k9, h9⟩) pre x suf hsplit
    (fun z hz => by
      rcases hpass z hz with h | ⟨hz0, nm, hl1, hn1⟩
      · exact Or.inl h
      · obtain ⟨c6, hc6, hcl6⟩ := Cond.classLink_spec hown hl1 e.platform hpl
        obtain ⟨a8, b8, h1, h2, h3⟩ := hn1
        cases Option.some.inj (h1.symm.trans hcl)
        cases Option.some.inj (h2.symm.trans hc6)
        exact Or.inr ⟨hz0, _, hcl6, h3⟩) hx (Or.inr ⟨h0, c4, hcl5, hasg⟩)
  obtain ⟨t, a1, b1⟩ := kk (T.setVm vm') hT X'
  exact ⟨t, st.trans a1, b1⟩
end Rows
section Ends
variable {p : Program} {l : Launch} {e : Env} {R : Room} {s : State} {m : MethodId} {args : Array Value} {below : List Frame} {meth : Method} {c : Code} {H : Heap} {locs : List Loc} {cells slots : Nat} {Q : State → Prop}
variable {mc ms : Nat} {free : Addr → Prop} {A0 A1 : Nat → Prop} {H0 : Heap} {a : Array Value} {ls : Array Slot} {st0 rest : List Value}
variable {Qc : Array Value → State → Outcome → State → Prop} {XC : String → State → State → Prop}
/-- what a body that may throw owes at its end -/
def vx_MQ (below : List Frame) (Qc : Array Value → State → Outcome → State → Prop) (XC : String → State → State → Prop) (a : Array Value) (s : State) (mc ms : Nat) (free : Addr → Prop) : State → Prop := fun t =>
  ∃ o, t.status = .running ∧ Ended t below o ∧ vx_Q Qc XC mc ms free a s o t
theorem vx_ret {g : JFrame} {mc ms : Nat} (k : W p l e R s m args below meth c H locs cells slots (MQ below Qc args s mc ms free) g) : W p l e R s m args below meth c H locs cells slots (vx_MQ below Qc XC args s mc ms free) g := by
  intro T hT X
  obtain ⟨t, a1, o, b1, b2, b3, b4⟩ := k T hT X
  exact ⟨t, a1, o, b1, b2, Or.inl ⟨b3, b4⟩⟩
/-- not caught here: it goes on to the caller -/
theorem vx_widen {g : JFrame} {q : Addr} {k n : Nat} (h1 : cells ≤ k) (h2 : slots ≤ n) (kk : vx_W p l e R s m args below meth c H locs k n Q g q) : vx_W p l e R s m args below meth c H locs cells slots Q g q := fun T hT X => kk T hT (stand_widen X h1 h2)
theorem vx_out {pc : Nat} {E : String} {ce : Cell} {q : Addr} {mc ms : Nat} (hout : ∀ x ∈ c.exceptionTable.toList, covers x pc = false) (hlocks : meth.locks = false) (hcell : H[q]? = some ce) (hv : ce.vm = .none) (hcl : s.vm.findClass E = some ce.cls)
    (hx : ∀ t : State, t.heap = H → s.vm.Alike t.vm → XC E s t) (hf : ∀ z ∈ locs, free z.base) (hc : cells ≤ mc) (hs : slots ≤ ms) :
    vx_W p l e R s m args below meth c H locs cells slots (vx_MQ below Qc XC args s mc ms free) (F0 m pc ls rest) q := by
  intro T hT X
  obtain ⟨st1, hrun, hend, hW, hsm⟩ := X.leaveThrown q (g := F0 m pc ls rest) rfl rfl rfl hout hlocks
  have hcell9 : (T.setFrames (.throwing q :: below)).heap[q]? = some ce := by
    show T.heap[q]? = some ce
    rw [hT]; exact hcell
  exact ⟨_, st1, .threw q, hrun, hend, Or.inr ⟨q, rfl, E, ce, locs, hx _ hT hW.alike, hcell9, hv, hcl, hW, hsm.mono hc hs, hf⟩⟩
theorem vx_frame {U : State} {k n : Nat} (h : s.sameButNew ({ U with vm := s.vm } : State) locs k n) : s.heap.size ≤ U.heap.size ∧ ∀ q : Nat, q < s.heap.size → (∀ z ∈ locs, z.base ≠ q) → U.heap[q]? = s.heap[q]? := by
  obtain ⟨-, h2, -, -, -, h6⟩ := h
  refine ⟨h2, fun q hq hz => ?_⟩
  obtain ⟨c9, e1, e2, e3, e4⟩ := h6 q _ (Array.getElem?_eq_getElem hq)
  have hs : c9.slots = (s.heap[q]).slots := Array.ext_getElem? fun i => e4 i fun hm => hz _ hm rfl
  have h9 : c9 = s.heap[q] := by
    rw [hs] at e2
    exact e2
  have e5 : U.heap[q]? = some c9 := e1
  rw [e5, h9, Array.getElem?_eq_getElem hq]
/-- the words of a throw but the four that speak of the heap -/
def vx_no (w : Cond) : Bool := decide (w ≠ .isRef (.static Bundle.tN "UNASSIGNED_STACK" Bundle.steD)) && decide (w ≠ .isRef (.static Bundle.tN "SUPPRESSED_SENTINEL" Bundle.listD)) && decide (w ≠ .laysStatic Bundle.tN "UNASSIGNED_STACK" Bundle.steD) && decide (w ≠ .laysStatic Bundle.tN "SUPPRESSED_SENTINEL" Bundle.listD)
def vx_at0 (own : String) (ic : Nat) (X : String) (names : List String) : List Cond := (Bundle.ownAtoms0 own ic X names).filter vx_no
def vx_atS (own : String) (ic : Nat) (X : String) (names : List String) : List Cond := (Bundle.ownAtoms own ic X names).filter vx_no
/-- a word that the tables alone decide, or a good one -/
def vx_ot (w : Cond) : Bool := w.onTables || goodWord w
theorem vx_ot_at {args a' : Array Value} {s U : State} {w : Cond} (hW : s.WarmedH U.vm) (hvm : s.vm = U.vm) (hg : vx_ot w = true) (h : w.before args s = true) : w.before a' U = true := by
  simp only [vx_ot, Bool.or_eq_true] at hg
  rcases hg with hg | hg
  · exact va_tabs hg hvm h
  · exact word_at hW (good_of_word hg) h
/-- a list's words: the good ones out of the method's own list, the others by premises of their own -/
theorem vx_hat {args : Array Value} {s : State} {L B : List Cond} (h1 : ∀ w ∈ L.filter goodWord, w.before args s = true) (h2 : ∀ w ∈ L.filter (fun w => !goodWord w), w ∈ B) (h3 : ∀ w ∈ B, w.before args s = true) : ∀ w ∈ L, w.before args s = true := by
  intro w hw
  by_cases g : goodWord w = true
  · exact h1 w (List.mem_filter.mpr ⟨hw, g⟩)
  · refine h3 w (h2 w (List.mem_filter.mpr ⟨hw, ?_⟩))
    show (!goodWord w) = true
    cases hgw : goodWord w
    · rfl
    · exact absurd hgw g
theorem vx_c {args : Array Value} {s : State} {w : Cond} {B : List Cond} (h : w.before args s = true) (t : ∀ w ∈ B, w.before args s = true) : ∀ w' ∈ w :: B, w'.before args s = true := fun w' h' => (List.mem_cons.mp h').elim (fun e => by rw [e]; exact h) (t w')
theorem vx_n {args : Array Value} {s : State} : ∀ w ∈ ([] : List Cond), w.before args s = true := fun _ h => nomatch h
theorem vx_own {args : Array Value} {s : State} {L : List Cond} (h1 : ∀ w ∈ L.filter vx_no, w.before args s = true)
    (hU : (Cond.isRef (.static Bundle.tN "UNASSIGNED_STACK" Bundle.steD)).before args s = true) (hN : (Cond.isRef (.static Bundle.tN "SUPPRESSED_SENTINEL" Bundle.listD)).before args s = true)
    (lU : (Cond.laysStatic Bundle.tN "UNASSIGNED_STACK" Bundle.steD).before args s = true) (lN : (Cond.laysStatic Bundle.tN "SUPPRESSED_SENTINEL" Bundle.listD).before args s = true) : ∀ w ∈ L, w.before args s = true := by
  intro w hw
  by_cases e1 : w = .isRef (.static Bundle.tN "UNASSIGNED_STACK" Bundle.steD)
  · rw [e1]; exact hU
  · by_cases e2 : w = .isRef (.static Bundle.tN "SUPPRESSED_SENTINEL" Bundle.listD)
    · rw [e2]; exact hN
    · by_cases e3 : w = .laysStatic Bundle.tN "UNASSIGNED_STACK" Bundle.steD
      · rw [e3]; exact lU
      · by_cases e4 : w = .laysStatic Bundle.tN "SUPPRESSED_SENTINEL" Bundle.listD
        · rw [e4]; exact lN
        · exact h1 w (List.mem_filter.mpr ⟨hw, by unfold vx_no; rw [decide_eq_true e1, decide_eq_true e2, decide_eq_true e3, decide_eq_true e4]; rfl⟩)
/-- where a static field lies, its class's statics cell in H -/
def vx_L (C n d : String) (A : Nat → Prop) (U : State) (H : Heap) : Prop := ∃ (c : ClassId) (k : Class) (i : Nat) (f : Field) (a : Nat) (cell : Cell), U.vm.findClass C = some c ∧ U.fieldFound? C n d = some (c, k, i, f) ∧ f.isStatic = true ∧ k.statics = some a ∧ H[a]? = some cell ∧ cell.vm.isStatics = true ∧ cell.cls = c ∧ f.slot < cell.slots.size ∧ k.staticTypes[f.slot]? = some f.type ∧ ¬ A a
theorem vx_L.moved {C n d : String} {A : Nat → Prop} {u U : State} {H : Heap} (hvm : u.vm.Alike U.vm) (h : vx_L C n d A u H) : vx_L C n d A U H := by
  obtain ⟨c, k, i, f, a, cell, h1, h2, h3, h4, h5, h6, h7, h8, h9, h10⟩ := h
  obtain ⟨k', hi', he⟩ := State.fieldFound?_setVm hvm h2
  exact ⟨c, k', i, f, a, cell, by rw [hvm.findClass]; exact h1, hi', h3, by rw [he]; exact h4, h5, h6, h7, h8, by rw [he]; exact h9, h10⟩
theorem vx_L.kept {C n d : String} {A : Nat → Prop} {U : State} {H H1 : Heap} (h : vx_L C n d A U H) (hq : ∀ a : Nat, a < H.size → ¬ A a → H1[a]? = H[a]?) : vx_L C n d A U H1 := by
  obtain ⟨c, k, i, f, a, cell, h1, h2, h3, h4, h5, h6, h7, h8, h9, h10⟩ := h
  exact ⟨c, k, i, f, a, cell, h1, h2, h3, h4, by rw [hq a (Array.getElem?_eq_some_iff.mp h5).1 h10]; exact h5, h6, h7, h8, h9, h10⟩
theorem vx_L.narrow {C n d : String} {A B : Nat → Prop} {U : State} {H : Heap} (h : vx_L C n d A U H) (hAB : ∀ q, B q → A q) : vx_L C n d B U H := by
  obtain ⟨c, k, i, f, a, cell, h1, h2, h3, h4, h5, h6, h7, h8, h9, h10⟩ := h
  exact ⟨c, k, i, f, a, cell, h1, h2, h3, h4, h5, h6, h7, h8, h9, fun z => h10 (hAB _ z)⟩
theorem vx_L.word {C n d : String} {A : Nat → Prop} {s : State} {args : Array Value} (h : vx_L C n d A s s.heap) : (Cond.laysStatic C n d).before args s = true := by
  obtain ⟨c, k, i, f, a, cell, h1, h2, h3, h4, h5, h6, h7, h8, h9, -⟩ := h
  show (Cond.laysStatic C n d).holds args s none s [] = true
  exact Cond.laysStatic_of h1 h2 h3 h4 h5 h6 h7 h8 h9
/-- .. and what it holds: null or some reference -/
def vx_Zq (C n d : String) (A : Nat → Prop) (U : State) (H : Heap) : Prop := va_Zq C n d A U H ∧ vx_L C n d A U H
theorem vx_Zq.moved {C n d : String} {A : Nat → Prop} {u U : State} {H : Heap} (hvm : u.vm.Alike U.vm) (h : vx_Zq C n d A u H) : vx_Zq C n d A U H := ⟨va_Zq.moved hvm h.1, vx_L.moved hvm h.2⟩
theorem vx_Zq.kept {C n d : String} {A : Nat → Prop} {U : State} {H H1 : Heap} (h : vx_Zq C n d A U H) (hq : ∀ a : Nat, a < H.size → ¬ A a → H1[a]? = H[a]?) : vx_Zq C n d A U H1 := ⟨va_Zq.kept h.1 hq, vx_L.kept h.2 hq⟩
theorem vx_Zq.narrow {C n d : String} {A B : Nat → Prop} {U : State} {H : Heap} (h : vx_Zq C n d A U H) (hAB : ∀ q, B q → A q) : vx_Zq C n d B U H := ⟨va_Zq.narrow h.1 hAB, vx_L.narrow h.2 hAB⟩
theorem vx_Zqof {args : Array Value} {s : State} {C n d : String} {A : Nat → Prop} (hl : (Cond.laysStatic C n d).before args s = true) (hini : (Cond.initialized C).before args s = true) (h : (Cond.isRef (.static C n d)).before args s = true) (hA : ∀ a : Nat, a < s.heap.size → ¬ A a) : vx_Zq C n d A s s.heap := by
  refine ⟨va_Zqof hl hini h hA, ?_⟩
  obtain ⟨c, k, i, f, a, cell, h1, h2, h3, h4, h5, h6, h7, h8, h9⟩ := Cond.laysStatic_spec hl
  exact ⟨c, k, i, f, a, cell, h1, h2, h3, h4, h5, h6, h7, h8, h9, hA a (Array.getElem?_eq_some_iff.mp h5).1⟩
theorem vx_isRef {C n d : String} {v : Value} {A : Nat → Prop} {s : State} {args : Array Value} (h : va_Z C n d v A s s.heap) (hv : v.isRef = true) : (Cond.isRef (.static C n d)).before args s = true := by
  obtain ⟨cf, kf, fi, f, a, cell, h1, h2, h3, h4, h5, h6, h7, -⟩ := h
  have he : (Term.static C n d).eval args s none [] s = some v := by
    simp [Term.eval, State.fieldNamed?, h1, h2, h4, h5, h6, h7]
  simp only [Cond.before, Cond.holds, Cond.value, he]
  cases v <;> simp_all [Value.isRef]
theorem vx_isRefq {C n d : String} {A : Nat → Prop} {s : State} {args : Array Value} (h : va_Zq C n d A s s.heap) : (Cond.isRef (.static C n d)).before args s = true := by
  rcases h with h | ⟨t, h⟩
  · exact vx_isRef h rfl
  · exact vx_isRef h rfl
/-- the same frame, seen from here: as if the method were called anew in this heap -/
theorem vx_rebase {T : State} (X : Stand p l e R s m args below meth c T locs cells slots) {R' : Room} (hf : R'.frames ≤ R.frames) (hl : R'.locals ≤ R.locals) (hc : cells + R'.cells ≤ R.cells) (hs : slots + R'.slots ≤ R.slots) :
    Stand p l e R' ((T.setVm s.vm).setFrames (.invoking m args :: below)) m args below meth c T [] 0 0 := by
  have htop : (T.setVm s.vm).topJava?.isSome := X.here.top
  have hF : ((T.setVm s.vm).setFrames (.invoking m args :: below)).frames = .invoking m args :: below := State.frames_setFrames _ (State.cur_lt_of_top htop)
  obtain ⟨g₀, hg0⟩ := Option.isSome_iff_exists.mp htop
  obtain ⟨r, hr⟩ := State.topJava?_eq_some.mp hg0
  have hl9 : e.platform.stackLimits (T.setVm s.vm).me = e.platform.stackLimits s.me := X.limits
  have hb9 : (T.setVm s.vm).me.stackBytes = s.me.stackBytes := X.bytes
  refine ⟨X.admits, X.cas, X.clock, hF, ?_, X.hears, X.method, X.code, X.here, X.tail, X.warmed, ?_, ?_, ?_⟩
  · have h := X.room
    have hU : ((T.setVm s.vm).setFrames (.invoking m args :: below)).localsInUse = s.localsInUse := by
      rw [State.localsInUse_invoking hF (meth := meth) (c := c) X.method X.code, State.localsInUse_invoking X.frames X.method X.code]
    simp only [State.hasRoom, Bool.and_eq_true, decide_eq_true_eq] at h ⊢
    obtain ⟨⟨⟨⟨h1, h2, h3, h4, h5, h6⟩, h7⟩, h8⟩, h9⟩ := h
    rw [X.frames, List.length_cons] at h2 h3
    have q1 := X.heapSize
    have q2 := X.used
    simp only [hF, hU, List.length_cons, State.stackLimits_setFrames, State.stackBytes_setFrames, hl9, hb9]
    refine ⟨⟨⟨⟨by omega, by omega, by omega, by omega, by omega, h6⟩, ?_⟩, ?_⟩, X.book⟩
    · show T.heap.size + R'.cells ≤ e.platform.maxCells
      omega
    · show T.slotsUsed + R'.slots ≤ e.platform.maxSlots
      omega
  · rw [State.stackLimits_setFrames]; rfl
  · rw [State.stackBytes_setFrames]; rfl
  · refine ⟨?_, Nat.le_refl _, Nat.le_refl _, ?_, ?_, fun a c9 h9 => ⟨c9, h9, rfl, rfl, fun _ _ => rfl⟩⟩
    · obtain ⟨t, ht, -⟩ := State.frames_cons hr
      show T.setVm s.vm = { ((T.setVm s.vm).setFrames (.invoking m args :: below)).setFrames (T.setVm s.vm).frames with heap := T.heap, slotsUsed := T.slotsUsed }
      rw [State.setFrames_setFrames, State.setFrames_self ht]
      rfl
    · show T.slotsUsed = T.slotsUsed + ((T.heap.toList.drop T.heap.size).map (·.slots.size)).sum
      rw [List.drop_eq_nil_of_le (Nat.le_of_eq Array.length_toList)]
      rfl
    · show ((T.heap.toList.drop T.heap.size).map (·.slots.size)).sum ≤ 0
      rw [List.drop_eq_nil_of_le (Nat.le_of_eq Array.length_toList)]
      exact Nat.le_refl _
/-- 'throw new E()': new; dup; invokespecial; athrow -/
theorem vx_throw0 {cc : ByteArray} {pc : Nat} (hexec : p.tables.exec = Jvm.exec) (hb : c.code = cc) (hl : l.stackTraces = false) {own cls : String} {names : List String} {ik ic mc ms : Nat} {A : Nat → Prop}
    (hown : s.vm.findClass own = some m.cls) (hcls : Bundle.fit cls = true) (hnames : ∀ n ∈ names, Bundle.fit n = true)
    (hk : (Cond.classLink own ik cls).before args s = true) (hini : (Cond.initialized cls).before args s = true) (hat : ∀ w ∈ vx_at0 own ic cls names, w.before args s = true)
    (hgood : ∀ w ∈ Cond.classLink own ik cls :: Cond.initialized cls :: vx_at0 own ic cls names, vx_ot w = true)
    (hU : vx_Zq Bundle.tN "UNASSIGNED_STACK" Bundle.steD A s s.heap) (hN : vx_Zq Bundle.tN "SUPPRESSED_SENTINEL" Bundle.listD A s s.heap) (hS : va_S A s.heap H locs) (hsize : ls.size = c.maxLocals)
    (d0 : decode cc pc = .ok (.new ik, 3)) (d3 : decode cc (pc + 3) = .ok (.dup, 1)) (d4 : decode cc (pc + 4) = .ok (.invokespecial ic, 3)) (d7 : decode cc (pc + 7) = .ok (.athrow, 1))
    (hout : ∀ x ∈ c.exceptionTable.toList, covers x (pc + 7) = false)
    (hRframes : names.length + 3 < R.frames) (hRlocals : (rest.map fun v => v.category).sum + (13 * (names.length + 1) + 42) ≤ R.locals) (hRcells : cells + 1 ≤ R.cells) (hRslots : slots + 6 ≤ R.slots) (hlocks : meth.locks = false)
    (hx : ∀ t : State, s.vm.Alike t.vm → H.size ≤ t.heap.size → (∀ q : Nat, q < H.size → t.heap[q]? = H[q]?) → XC cls s t)
    (hf : ∀ z ∈ locs, free z.base) (hc : cells + 1 ≤ mc) (hs : slots + 6 ≤ ms) :
    W p l e R s m args below meth c H locs cells slots (vx_MQ below Qc XC args s mc ms free) (F0 m pc ls rest) := by
  intro T hT X
  have htr : e.platform.stackTraces = false := (show e.platform.stackTraces = l.stackTraces by rw [X.admits.platform]).trans hl
  have Y := vx_rebase X (R' := { frames := R.frames, locals := R.locals, cells := 1, slots := 6 }) (Nat.le_refl _) (Nat.le_refl _) hRcells hRslots
  obtain ⟨s', hA⟩ : ∃ z, z = (T.setVm s.vm).setFrames (.invoking m args :: below) := ⟨_, rfl⟩
  rw [← hA] at Y
  have hvm : s'.vm = s.vm := by rw [hA]; rfl
  have hhp : s'.heap = H := by rw [hA]; exact hT
  have hW0 : s.WarmedH s'.vm := by rw [hvm]; exact State.WarmedH.refl s
  have hat' : ∀ w ∈ vx_at0 own ic cls names, w.before args s' = true := fun w hw => vx_ot_at hW0 hvm.symm (hgood w (List.mem_cons_of_mem _ (List.mem_cons_of_mem _ hw))) (hat w hw)
  have hk' : (Cond.classLink own ik cls).before args s' = true := vx_ot_at hW0 hvm.symm (hgood _ List.mem_cons_self) hk
  have hini' : (Cond.initialized cls).before args s' = true := vx_ot_at hW0 hvm.symm (hgood _ (List.mem_cons_of_mem _ List.mem_cons_self)) hini
  have hU' : vx_Zq Bundle.tN "UNASSIGNED_STACK" Bundle.steD A s' s'.heap := by rw [hhp]; exact vx_Zq.moved hW0.alike (hU.kept hS.2.1)
  have hN' : vx_Zq Bundle.tN "SUPPRESSED_SENTINEL" Bundle.listD A s' s'.heap := by rw [hhp]; exact vx_Zq.moved hW0.alike (hN.kept hS.2.1)
  have h : ∀ w ∈ Bundle.ownAtoms0 own ic cls names, w.before args s' = true := vx_own hat' (vx_isRefq hU'.1) (vx_isRefq hN'.1) hU'.2.word hN'.2.word
  have hown' : s'.vm.findClass own = some m.cls := by rw [hvm]; exact hown
  have hins : (Cond.instantiable cls 6).before args s' = true := h _ (by simp [Bundle.ownAtoms0])
  obtain ⟨vm₁, cX, kX, hfX, hkX, -, -, X₁, st1⟩ := Y.newCold hexec (own := own) (C := cls) (index := ik) (n := 6) hown' hk' hins hini'
    (g := F0 m pc ls rest) rfl (by rw [hb]; exact d0) (Nat.le_refl _) (Nat.le_refl _)
  generalize hT1 : (T.setVm vm₁).pushCell { cls := cX, slots := kX.instanceTypes.map defaultValue, vm := .none } = T1 at X₁ st1
  have hcat : (Value.ref T.heap.size).category = 1 := rfl
  have hcellA : T1.heap[T.heap.size]? = some (freshCell cX kX) := by rw [← hT1]; exact State.heap_pushCell_size _ _
  have d3' : decode c.code (pc + 3) = .ok (.dup, 1) := by rw [hb]; exact d3
  obtain ⟨U, hsteps, hrun, hend, hW, hsame, ce, hce, hO⟩ := X₁.ctorThrow0 hexec htr (own := own) (cls := cls) (names := names) (ic := ic) hown' hcls hnames h (fun x hx => nomatch hx) hfX hkX hcellA (by rw [hhp, hT]; exact Nat.le_refl _)
    (g := { method := m, pc := pc + 4, locals := ls, stack := .ref T.heap.size :: .ref T.heap.size :: rest, locked := none }) rfl hsize rfl rfl (rest := rest) rfl
    (by rw [hb]; exact d4) (by rw [hb]; exact d7) hout hRframes (by simp only [List.map_cons, List.sum_cons, hcat]; omega) hlocks
  obtain ⟨f1, f2⟩ := vx_frame hsame
  rw [hhp] at f1 f2
  have hWs : s.WarmedH U.vm := State.WarmedH.trans hW0 hW
  have hcl : s.vm.findClass cls = some ce.cls := by
    have h9 := hO.cls
    rw [hvm] at h9
    exact h9
  have hall : s.sameButNew ({ U with vm := s.vm } : State) locs mc ms := by
    subst hA
    obtain ⟨e1, e2⟩ := hsame
    rw [State.setFrames_setFrames] at e1
    have h2 : (T.setVm s.vm).sameButNew ({ U with vm := s.vm } : State) [] (0 + 1) (0 + 6) := ⟨e1, e2⟩
    have h3 := X.same.trans h2
    rw [List.append_nil] at h3
    exact h3.mono hc hs
  refine ⟨U, ?_, .threw T.heap.size, hrun, hend, Or.inr ⟨T.heap.size, rfl, cls, ce, locs, hx U hWs.alike f1 (fun q hq => f2 q hq (fun z hz => nomatch hz)), hce, hO.vm, hcl, hWs, hall, hf⟩⟩
  refine st1 _ ?_
  show Steps p.tables e below (T1.setTop { method := m, pc := pc + 3, locals := ls, stack := .ref T.heap.size :: rest, locked := none }) _
  jvm_step X₁.here [X₁.here.top, hexec, d3', Value.category]
  exact hsteps
/-- 'throw new E("text")': new; dup; ldc; invokespecial; athrow -/
theorem vx_throwS {cc : ByteArray} {pc : Nat} (hexec : p.tables.exec = Jvm.exec) (hb : c.code = cc) (hl : l.stackTraces = false) {own cls text : String} {names : List String} {ik is ic mc ms sa : Nat} {A : Nat → Prop}
    (hown : s.vm.findClass own = some m.cls) (hcls : Bundle.fit cls = true) (hnames : ∀ n ∈ names, Bundle.fit n = true)
    (hk : (Cond.classLink own ik cls).before args s = true) (hini : (Cond.initialized cls).before args s = true) (hstr : vk_R own is text sa s) (hat : ∀ w ∈ vx_atS own ic cls names, w.before args s = true)
    (hgood : ∀ w ∈ Cond.classLink own ik cls :: Cond.initialized cls :: vx_atS own ic cls names, vx_ot w = true)
    (hU : vx_Zq Bundle.tN "UNASSIGNED_STACK" Bundle.steD A s s.heap) (hN : vx_Zq Bundle.tN "SUPPRESSED_SENTINEL" Bundle.listD A s s.heap) (hS : va_S A s.heap H locs) (hsize : ls.size = c.maxLocals)
    (d0 : decode cc pc = .ok (.new ik, 3)) (d3 : decode cc (pc + 3) = .ok (.dup, 1)) (d4 : decode cc (pc + 4) = .ok (.ldc is, 2)) (d6 : decode cc (pc + 6) = .ok (.invokespecial ic, 3)) (d9 : decode cc (pc + 9) = .ok (.athrow, 1))
    (hout : ∀ x ∈ c.exceptionTable.toList, covers x (pc + 9) = false)
    (hRframes : names.length + 3 < R.frames) (hRlocals : (rest.map fun v => v.category).sum + (13 * (names.length + 1) + 43) ≤ R.locals) (hRcells : cells + 1 ≤ R.cells) (hRslots : slots + 6 ≤ R.slots) (hlocks : meth.locks = false)
    (hx : ∀ t : State, s.vm.Alike t.vm → H.size ≤ t.heap.size → (∀ q : Nat, q < H.size → t.heap[q]? = H[q]?) → XC cls s t)
    (hf : ∀ z ∈ locs, free z.base) (hc : cells + 1 ≤ mc) (hs : slots + 6 ≤ ms) :
    W p l e R s m args below meth c H locs cells slots (vx_MQ below Qc XC args s mc ms free) (F0 m pc ls rest) := by
  intro T hT X
  have htr : e.platform.stackTraces = false := (show e.platform.stackTraces = l.stackTraces by rw [X.admits.platform]).trans hl
  have Y := vx_rebase X (R' := { frames := R.frames, locals := R.locals, cells := 1, slots := 6 }) (Nat.le_refl _) (Nat.le_refl _) hRcells hRslots
  obtain ⟨s', hA⟩ : ∃ z, z = (T.setVm s.vm).setFrames (.invoking m args :: below) := ⟨_, rfl⟩
  rw [← hA] at Y
  have hvm : s'.vm = s.vm := by rw [hA]; rfl
  have hhp : s'.heap = H := by rw [hA]; exact hT
  have hW0 : s.WarmedH s'.vm := by rw [hvm]; exact State.WarmedH.refl s
  have hat' : ∀ w ∈ vx_atS own ic cls names, w.before args s' = true := fun w hw => vx_ot_at hW0 hvm.symm (hgood w (List.mem_cons_of_mem _ (List.mem_cons_of_mem _ hw))) (hat w hw)
  have hk' : (Cond.classLink own ik cls).before args s' = true := vx_ot_at hW0 hvm.symm (hgood _ List.mem_cons_self) hk
  have hini' : (Cond.initialized cls).before args s' = true := vx_ot_at hW0 hvm.symm (hgood _ (List.mem_cons_of_mem _ List.mem_cons_self)) hini
  have hU' : vx_Zq Bundle.tN "UNASSIGNED_STACK" Bundle.steD A s' s'.heap := by rw [hhp]; exact vx_Zq.moved hW0.alike (hU.kept hS.2.1)
  have hN' : vx_Zq Bundle.tN "SUPPRESSED_SENTINEL" Bundle.listD A s' s'.heap := by rw [hhp]; exact vx_Zq.moved hW0.alike (hN.kept hS.2.1)
  have h : ∀ w ∈ Bundle.ownAtoms own ic cls names, w.before args s' = true := vx_own hat' (vx_isRefq hU'.1) (vx_isRefq hN'.1) hU'.2.word hN'.2.word
  have hown' : s'.vm.findClass own = some m.cls := by rw [hvm]; exact hown
  have hins : (Cond.instantiable cls 6).before args s' = true := h _ (by simp [Bundle.ownAtoms])
  obtain ⟨vm₁, cX, kX, hfX, hkX, -, -, X₁, st1⟩ := Y.newCold hexec (own := own) (C := cls) (index := ik) (n := 6) hown' hk' hins hini'
    (g := F0 m pc ls rest) rfl (by rw [hb]; exact d0) (Nat.le_refl _) (Nat.le_refl _)
  generalize hT1 : (T.setVm vm₁).pushCell { cls := cX, slots := kX.instanceTypes.map defaultValue, vm := .none } = T1 at X₁ st1
  have hcat : (Value.ref T.heap.size).category = 1 := rfl
  have hcellA : T1.heap[T.heap.size]? = some (freshCell cX kX) := by rw [← hT1]; exact State.heap_pushCell_size _ _
  have d3' : decode c.code (pc + 3) = .ok (.dup, 1) := by rw [hb]; exact d3
  have d4' : decode c.code (pc + 4) = .ok (.ldc is, 2) := by rw [hb]; exact d4
  have hstr' : vk_R own is text sa s' := vk_R.warm hW0 hstr
  obtain ⟨U, hsteps, hrun, hend, hW, hsame, ce, hce, hO⟩ := X₁.ctorThrowS hexec htr (own := own) (cls := cls) (names := names) (ic := ic) hown' hcls hnames h (fun x hx => nomatch hx) hfX hkX hcellA (by rw [hhp, hT]; exact Nat.le_refl _) (msg := .ref sa) rfl
    (g := { method := m, pc := pc + 6, locals := ls, stack := .ref sa :: .ref T.heap.size :: .ref T.heap.size :: rest, locked := none }) rfl hsize rfl rfl (rest := rest) rfl
    (by rw [hb]; exact d6) (by rw [hb]; exact d9) hout hRframes (by simp only [List.map_cons, List.sum_cons, hcat]; omega) hlocks
  obtain ⟨f1, f2⟩ := vx_frame hsame
  rw [hhp] at f1 f2
  have hWs : s.WarmedH U.vm := State.WarmedH.trans hW0 hW
  have hcl : s.vm.findClass cls = some ce.cls := by
    have h9 := hO.cls
    rw [hvm] at h9
    exact h9
  have hall : s.sameButNew ({ U with vm := s.vm } : State) locs mc ms := by
    subst hA
    obtain ⟨e1, e2⟩ := hsame
    rw [State.setFrames_setFrames] at e1
    have h2 : (T.setVm s.vm).sameButNew ({ U with vm := s.vm } : State) [] (0 + 1) (0 + 6) := ⟨e1, e2⟩
    have h3 := X.same.trans h2
    rw [List.append_nil] at h3
    exact h3.mono hc hs
  refine ⟨U, ?_, .threw T.heap.size, hrun, hend, Or.inr ⟨T.heap.size, rfl, cls, ce, locs, hx U hWs.alike f1 (fun q hq => f2 q hq (fun z hz => nomatch hz)), hce, hO.vm, hcl, hWs, hall, hf⟩⟩
  refine st1 _ ?_
  show Steps p.tables e below (T1.setTop { method := m, pc := pc + 3, locals := ls, stack := .ref T.heap.size :: rest, locked := none }) _
  jvm_step X₁.here [X₁.here.top, hexec, d3', Value.category]
  exact X₁.ldcString hexec (own := own) (text := text) (index := is) (a := sa) hown' hstr'.1 hstr'.2
    (g := { method := m, pc := pc + 4, locals := ls, stack := .ref T.heap.size :: .ref T.heap.size :: rest, locked := none }) rfl d4' _ hsteps
/-- 'throw new E("text")', the text by a wide index -/
theorem vx_throwSW {cc : ByteArray} {pc : Nat} (hexec : p.tables.exec = Jvm.exec) (hb : c.code = cc) (hl : l.stackTraces = false) {own cls text : String} {names : List String} {ik is ic mc ms sa : Nat} {A : Nat → Prop}
    (hown : s.vm.findClass own = some m.cls) (hcls : Bundle.fit cls = true) (hnames : ∀ n ∈ names, Bundle.fit n = true)
    (hk : (Cond.classLink own ik cls).before args s = true) (hini : (Cond.initialized cls).before args s = true) (hstr : vk_R own is text sa s) (hat : ∀ w ∈ vx_atS own ic cls names, w.before args s = true)
    (hgood : ∀ w ∈ Cond.classLink own ik cls :: Cond.initialized cls :: vx_atS own ic cls names, vx_ot w = true)
    (hU : vx_Zq Bundle.tN "UNASSIGNED_STACK" Bundle.steD A s s.heap) (hN : vx_Zq Bundle.tN "SUPPRESSED_SENTINEL" Bundle.listD A s s.heap) (hS : va_S A s.heap H locs) (hsize : ls.size = c.maxLocals)
    (d0 : decode cc pc = .ok (.new ik, 3)) (d3 : decode cc (pc + 3) = .ok (.dup, 1)) (d4 : decode cc (pc + 4) = .ok (.ldc_w is, 3)) (d7 : decode cc (pc + 7) = .ok (.invokespecial ic, 3)) (d10 : decode cc (pc + 10) = .ok (.athrow, 1))
    (hout : ∀ x ∈ c.exceptionTable.toList, covers x (pc + 10) = false)
    (hRframes : names.length + 3 < R.frames) (hRlocals : (rest.map fun v => v.category).sum + (13 * (names.length + 1) + 43) ≤ R.locals) (hRcells : cells + 1 ≤ R.cells) (hRslots : slots + 6 ≤ R.slots) (hlocks : meth.locks = false)
    (hx : ∀ t : State, s.vm.Alike t.vm → H.size ≤ t.heap.size → (∀ q : Nat, q < H.size → t.heap[q]? = H[q]?) → XC cls s t)
    (hf : ∀ z ∈ locs, free z.base) (hc : cells + 1 ≤ mc) (hs : slots + 6 ≤ ms) :
    W p l e R s m args below meth c H locs cells slots (vx_MQ below Qc XC args s mc ms free) (F0 m pc ls rest) := by
  intro T hT X
  have htr : e.platform.stackTraces = false := (show e.platform.stackTraces = l.stackTraces by rw [X.admits.platform]).trans hl
  have Y := vx_rebase X (R' := { frames := R.frames, locals := R.locals, cells := 1, slots := 6 }) (Nat.le_refl _) (Nat.le_refl _) hRcells hRslots
  obtain ⟨s', hA⟩ : ∃ z, z = (T.setVm s.vm).setFrames (.invoking m args :: below) := ⟨_, rfl⟩
  rw [← hA] at Y
  have hvm : s'.vm = s.vm := by rw [hA]; rfl
  have hhp : s'.heap = H := by rw [hA]; exact hT
  have hW0 : s.WarmedH s'.vm := by rw [hvm]; exact State.WarmedH.refl s
  have hat' : ∀ w ∈ vx_atS own ic cls names, w.before args s' = true := fun w hw => vx_ot_at hW0 hvm.symm (hgood w (List.mem_cons_of_mem _ (List.mem_cons_of_mem _ hw))) (hat w hw)
  have hk' : (Cond.classLink own ik cls).before args s' = true := vx_ot_at hW0 hvm.symm (hgood _ List.mem_cons_self) hk
  have hini' : (Cond.initialized cls).before args s' = true := vx_ot_at hW0 hvm.symm (hgood _ (List.mem_cons_of_mem _ List.mem_cons_self)) hini
  have hU' : vx_Zq Bundle.tN "UNASSIGNED_STACK" Bundle.steD A s' s'.heap := by rw [hhp]; exact vx_Zq.moved hW0.alike (hU.kept hS.2.1)
  have hN' : vx_Zq Bundle.tN "SUPPRESSED_SENTINEL" Bundle.listD A s' s'.heap := by rw [hhp]; exact vx_Zq.moved hW0.alike (hN.kept hS.2.1)
  have h : ∀ w ∈ Bundle.ownAtoms own ic cls names, w.before args s' = true := vx_own hat' (vx_isRefq hU'.1) (vx_isRefq hN'.1) hU'.2.word hN'.2.word
  have hown' : s'.vm.findClass own = some m.cls := by rw [hvm]; exact hown
  have hins : (Cond.instantiable cls 6).before args s' = true := h _ (by simp [Bundle.ownAtoms])
  obtain ⟨vm₁, cX, kX, hfX, hkX, -, -, X₁, st1⟩ := Y.newCold hexec (own := own) (C := cls) (index := ik) (n := 6) hown' hk' hins hini'
    (g := F0 m pc ls rest) rfl (by rw [hb]; exact d0) (Nat.le_refl _) (Nat.le_refl _)
  generalize hT1 : (T.setVm vm₁).pushCell { cls := cX, slots := kX.instanceTypes.map defaultValue, vm := .none } = T1 at X₁ st1
  have hcat : (Value.ref T.heap.size).category = 1 := rfl
  have hcellA : T1.heap[T.heap.size]? = some (freshCell cX kX) := by rw [← hT1]; exact State.heap_pushCell_size _ _
  have d3' : decode c.code (pc + 3) = .ok (.dup, 1) := by rw [hb]; exact d3
  have d4' : decode c.code (pc + 4) = .ok (.ldc_w is, 3) := by rw [hb]; exact d4
  have hstr' : vk_R own is text sa s' := vk_R.warm hW0 hstr
  obtain ⟨U, hsteps, hrun, hend, hW, hsame, ce, hce, hO⟩ := X₁.ctorThrowS hexec htr (own := own) (cls := cls) (names := names) (ic := ic) hown' hcls hnames h (fun x hx => nomatch hx) hfX hkX hcellA (by rw [hhp, hT]; exact Nat.le_refl _) (msg := .ref sa) rfl
    (g := { method := m, pc := pc + 7, locals := ls, stack := .ref sa :: .ref T.heap.size :: .ref T.heap.size :: rest, locked := none }) rfl hsize rfl rfl (rest := rest) rfl
    (by rw [hb]; exact d7) (by rw [hb]; exact d10) hout hRframes (by simp only [List.map_cons, List.sum_cons, hcat]; omega) hlocks
  obtain ⟨f1, f2⟩ := vx_frame hsame
  rw [hhp] at f1 f2
  have hWs : s.WarmedH U.vm := State.WarmedH.trans hW0 hW
  have hcl : s.vm.findClass cls = some ce.cls := by
    have h9 := hO.cls
    rw [hvm] at h9
    exact h9
  have hall : s.sameButNew ({ U with vm := s.vm } : State) locs mc ms := by
    subst hA
    obtain ⟨e1, e2⟩ := hsame
    rw [State.setFrames_setFrames] at e1
    have h2 : (T.setVm s.vm).sameButNew ({ U with vm := s.vm } : State) [] (0 + 1) (0 + 6) := ⟨e1, e2⟩
    have h3 := X.same.trans h2
    rw [List.append_nil] at h3
    exact h3.mono hc hs
  refine ⟨U, ?_, .threw T.heap.size, hrun, hend, Or.inr ⟨T.heap.size, rfl, cls, ce, locs, hx U hWs.alike f1 (fun q hq => f2 q hq (fun z hz => nomatch hz)), hce, hO.vm, hcl, hWs, hall, hf⟩⟩
  refine st1 _ ?_
  show Steps p.tables e below (T1.setTop { method := m, pc := pc + 3, locals := ls, stack := .ref T.heap.size :: rest, locked := none }) _
  jvm_step X₁.here [X₁.here.top, hexec, d3', Value.category]
  exact X₁.ldcStringW hexec (own := own) (text := text) (index := is) (a := sa) hown' hstr'.1 hstr'.2
    (g := { method := m, pc := pc + 4, locals := ls, stack := .ref T.heap.size :: .ref T.heap.size :: rest, locked := none }) rfl d4' _ hsteps
end Ends
section Bodies
variable {l : Launch}
theorem vx_ofW {y : MethodName} {ws ws' : List Cond} {rm : Room} {Pc : Array Value → State → Prop} {Qc : Array Value → State → Outcome → State → Prop} {XC : String → State → State → Prop} {mc ms : Nat} {free : Addr → Prop} {cc : ByteArray} {maxL : Nat} {ret : Option FieldType}
    (hy : plainName y.cls = true) (hw : ws = Cond.code y cc maxL ret :: ws')
    (body : ∀ p e s m args below meth c s₁, BodyLoose p l y (headSpec ws rm) cc maxL ret e s m args below meth c s₁ → c.maxLocals = maxL → (∀ x ∈ c.exceptionTable.toList, False) → Pc args s →
      W p l e (headSpec ws rm).room s m args below meth c s.heap [] 0 0 (vx_MQ below Qc XC args s mc ms free) (entryFrame m args maxL)) : vx_Met l y ws rm Pc Qc XC mc ms free := by
  refine MetFree.of_bodyS (code := cc) (maxLocals := maxL) (ret := ret) hy ?_ ?_
  · intro args s m h hn
    obtain ⟨meth, c, h1, h2, h3, h4, h5, h6, -, -⟩ := Cond.code_spec hn (atoms_spec (ws := ws) h _ (by rw [hw]; exact List.mem_cons_self))
    exact ⟨meth, c, h1, h2, h3, h4, h5, h6⟩
  · intro p e s m args below meth c s₁ B hml hP _
    have hh0 : s₁.heap = s.heap := by rw [B.state]; rfl
    have ht : ∀ x ∈ c.exceptionTable.toList, False := by
      obtain ⟨meth9, c9, h1, h2, -, -, -, -, h7, -⟩ := Cond.code_spec B.named (atoms_spec (ws := ws) B.pre _ (by rw [hw]; exact List.mem_cons_self))
      cases Option.some.inj (h1.symm.trans B.method)
      cases Option.some.inj (h2.symm.trans (Stand.of_body B).code)
      intro x hx
      rw [Array.isEmpty_iff.mp h7] at hx
      cases hx
    obtain ⟨t, a1, o, b1, b2, b3⟩ := body p e s m args below meth c s₁ B hml ht hP s₁ hh0 (Stand.of_body B)
    exact ⟨t, o, a1, b1, b2, b3⟩
/-- the table of a body with handlers -/
theorem vx_table {p : Program} {x y : MethodName} {S : Spec} {cc bytes : ByteArray} {maxL maxL' : Nat} {ret ret' : Option FieldType} {e : Env} {s s₁ : State} {m : MethodId} {args : Array Value} {below : List Frame} {meth : Method} {c : Code} {hh : List (Nat × Nat × Nat × Nat)}
    (B : BodyLoose p l y S cc maxL ret e s m args below meth c s₁) (h : (Cond.codeWith y bytes maxL' ret' hh).before args s = true) : c.exceptionTable.toList = tableOf hh := by
  obtain ⟨m9, meth9, c9, hn9, h1, h2, -, -, h6, -⟩ := Cond.codeWith_spec h
  cases Option.some.inj (hn9.symm.trans B.named)
  cases Option.some.inj (h1.symm.trans B.method)
  cases Option.some.inj (h2.symm.trans (Stand.of_body B).code)
  rw [← h6, table_eq]
end Bodies
end VXA
/-! ===== END ===== -/
/-! ===== BEGIN a static call of a method with an exception table ===== -/
section VXS
variable {p : Program} {l : Launch} {e : Env} {R : Room} {s : State} {m : MethodId} {args : Array Value} {below : List Frame} {meth : Method} {c : Code} {T : State} {H : Heap} {locs : List Loc} {cells slots : Nat}
abbrev vx_CSW (R : Room) (s : State) (args : Array Value) (own : String) (index : Nat) (y : MethodName) (bytes : ByteArray) (maxL : Nat) (ret : Option FieldType) (hh : List (Nat × Nat × Nat × Nat)) (ws : List Cond) (rm : Room) (mc ms n : Nat) : Prop :=
  (rm.cells = mc ∧ rm.slots = ms ∧ rm.frames + 1 ≤ R.frames ∧ 8 + (maxL + 11) + rm.locals ≤ R.locals ∧ (∀ w ∈ ws, ∀ (a' : Array Value) (U : State), s.WarmedH U.vm → w.before a' U = true) ∧ Cond.codeWith y bytes maxL ret hh ∈ ws) ∧
  (Cond.codeWith y bytes maxL ret hh).before args s = true ∧ (Cond.initialized y.cls).before args s = true ∧ (y.cls ≠ "java/lang/invoke/MethodHandle" ∧ y.cls ≠ "java/lang/invoke/VarHandle") ∧
  (∀ sig, parseMethodDescriptor y.desc = some sig → n = sig.parameters.length) ∧ (Cond.methodLink own index y).before args s = true ∧ (Cond.static y).before args s = true
theorem vx_cwSW {own : String} {index maxL mc ms : Nat} {y : MethodName} {bytes : ByteArray} {ret : Option FieldType} {hh : List (Nat × Nat × Nat × Nat)} {Ts ws ws' : List Cond} {rm : Room} (n : Nat) (ht : ∀ w ∈ Ts, w.before args s = true) (hT : GoodIn Ts (va_wsS own index y ws)) (hw : ws = Cond.codeWith y bytes maxL ret hh :: ws') (hrc : rm.cells = mc) (hrs : rm.slots = ms)
    (hd : y.cls ≠ "java/lang/invoke/MethodHandle" ∧ y.cls ≠ "java/lang/invoke/VarHandle" ∧ (parseMethodDescriptor y.desc).map (fun d => d.parameters.length) = some n) (hR : rm.frames + 1 ≤ R.frames ∧ 8 + (maxL + 11) + rm.locals ≤ R.locals) :
    vx_CSW R s args own index y bytes maxL ret hh ws rm mc ms n := by
  have ok : ∀ w ∈ va_wsS own index y ws, w.before args s = true := fun w h => ht w (hT w h).1
  have hG : GoodIn Ts ws := fun w h => hT w (by unfold va_wsS; exact List.mem_append_right _ h)
  have hc : Cond.codeWith y bytes maxL ret hh ∈ ws := by rw [hw]; exact List.mem_cons_self
  refine ⟨⟨hrc, hrs, hR.1, hR.2, pay_in ht hG, hc⟩, ht _ (hG _ hc).1, ok _ (by simp [va_wsS]), ⟨hd.1, hd.2.1⟩, fun sig h => ?_, ok _ (by simp [va_wsS]), ok _ (by simp [va_wsS])⟩
  have h2 := hd.2.2
  rw [h] at h2
  exact (Option.some.inj h2).symm
theorem vx_callSW (X : Stand p l e R s m args below meth c T locs cells slots) (hexec : p.tables.exec = Jvm.exec) {own : String} {index : Nat} {y : MethodName} {bytes : ByteArray} {maxL : Nat} {ret : Option FieldType} {hh : List (Nat × Nat × Nat × Nat)}
    (hown : s.vm.findClass own = some m.cls) (hlink : (Cond.methodLink own index y).before args s = true) (hstat : (Cond.static y).before args s = true) (hinit : (Cond.initialized y.cls).before args s = true)
    (hcode : (Cond.codeWith y bytes maxL ret hh).before args s = true) (hy : y.cls ≠ "java/lang/invoke/MethodHandle" ∧ y.cls ≠ "java/lang/invoke/VarHandle")
    {W9 : Nat} {Pre : Pt → Array Value → Prop} {Post : Pt → Array Value → Option Value → Pt → Prop} (hK : Back l R p e below s args y 3 W9 Pre Post)
    {g : JFrame} (hg : g.method = m) (hsize : g.locals.size = c.maxLocals) {argsL rest : List Value} (hlen : ∀ sig, parseMethodDescriptor y.desc = some sig → argsL.length = sig.parameters.length)
    (hstack : g.stack = argsL.reverse ++ rest) (hW : 2 * g.monitorRoom + (rest.map fun v => v.category).sum ≤ W9) (hdg : decode c.code g.pc = .ok (.invokestatic index, 3))
    (hpre : ∀ vm₁, s.WarmedH vm₁ → Pre ⟨T.setVm vm₁, locs, cells, slots⟩ argsL.toArray) :
    ∃ (v : Option Value) (vm₁ : Vm) (B : Pt), s.WarmedH vm₁ ∧ Stand p l e R s m args below meth c B.U B.locs B.cells B.slots ∧ Post ⟨T.setVm vm₁, locs, cells, slots⟩ argsL.toArray v B ∧
      ∀ target, Steps p.tables e below (B.U.setTop { g with pc := g.pc + 3, stack := v.toList ++ rest }) target → Steps p.tables e below (T.setTop g) target := by
  obtain ⟨mk, methM, cM, hnamed, hmethM, -, -, -, -, -, -, hsigM⟩ := Cond.codeWith_spec hcode
  have hstatic : methM.isStatic = true := Cond.static_spec hnamed hmethM hstat
  obtain ⟨kP, hkP, -⟩ := className_of_methodNamed hnamed
  have hinitP : kP.init = .initialized := Cond.initialized_spec (findClass_of_methodNamed hnamed) hkP hinit
  obtain ⟨vm₁, X₁, hstep₁⟩ := X.invokestatic hexec hown hlink hnamed hmethM hstatic hkP hinitP hy (g := g) hg (argsL := argsL) (rest := rest) (hlen _ hsigM) hstack hdg
  obtain ⟨v, B, X', hpost, hsteps⟩ := hK m meth c ⟨T.setVm vm₁, locs, cells, slots⟩ { g with stack := rest } (.invokestatic index) mk argsL.toArray X₁ hg hsize hdg hW (X₁.named hnamed) (hpre vm₁ X₁.warmed)
  exact ⟨v, vm₁, B, X₁.warmed, X', hpost, fun target h => hstep₁ _ fun acts => by rw [doInvoke_state]; exact hsteps.trans h⟩
theorem vx_runSW {y : MethodName} {bytes cc : ByteArray} {maxL nL mc ms n index : Nat} {ret : Option FieldType} {hh : List (Nat × Nat × Nat × Nat)} {ws : List Cond} {rm : Room} {Pc : Array Value → State → Prop} {Qc : Array Value → State → Outcome → State → Prop} {free : Addr → Prop} {Ts : List Cond} {own : String} {As rest : List Value} {g : JFrame}
    (S : CallFix p m c cc nL s args Ts own) (hM : Met l y ws rm Pc Qc mc ms free) (cw : vx_CSW R s args own index y bytes maxL ret hh ws rm mc ms n) (hp : PreS s H Pc As)
    (hg : g.method = m) (hn : As.length = n) (hsize : g.locals.size = nL) (hstack : g.stack = As.reverse ++ rest) (hW : 2 * g.monitorRoom + (rest.map fun v => v.category).sum ≤ 8) (hdg : decode cc g.pc = .ok (.invokestatic index, 3)) (hf : cells + mc ≤ R.cells ∧ slots + ms ≤ R.slots) :
    va_Run p l e R s m args below meth c H locs cells slots mc ms g rest (Qc As.toArray) (free) := by
  obtain ⟨⟨hrc, hrs, hfr, hlo, hws, hcw⟩, hcode, hini, hy, hlen, hl, hstt⟩ := cw
  have hK : Back l R p e below s args y 3 8 (PreOf R mc ms Pc) (PostOf Qc mc ms free) := va_backW (hh := hh) (bytes := bytes) (maxL := maxL) (ret := ret) hM hp.1 hrc hrs hfr hlo hws hcw (fun a' U hW => word_at hW (Or.inl (by first | rfl | simp [Cond.onTables, Cond.keeps, Cond.steady])) hini)
  obtain ⟨hx, hb, hml, ho, -⟩ := S
  intro T hT X
  obtain ⟨v, vm₁, ⟨U', l2, c2, s2⟩, hW₁, X', ⟨g', mk, t, L, e1, e2, hq, h1, hL, h2, h3⟩, st⟩ := vx_callSW X hx (hh := hh) (bytes := bytes) (maxL := maxL) (ret := ret) ho hl hstt hini hcode hy hK hg (hsize.trans hml.symm) (argsL := As) (rest := rest) (fun sig h => hn.trans (hlen sig h)) hstack hW (by rw [hb]; exact hdg)
    (fun vm₁ hW₁ => ⟨hf.1, hf.2, hp.2 (T.setVm vm₁) hT hW₁⟩)
  dsimp only [Pt.U, Pt.locs, Pt.cells, Pt.slots] at X' e1 e2 h1 h2 h3 st
  subst h1; subst h2; subst h3
  exact ⟨v, (T.setVm vm₁).calling g' mk As.toArray, t, U', L, hT, X', hL, e1, e2, hq, st⟩
/-- not caught here, past rows that name other classes: it goes on to the caller -/
theorem vx_outP {p : Program} {l : Launch} {e : Env} {R : Room} {s : State} {m : MethodId} {args : Array Value} {below : List Frame} {meth : Method} {c : Code} {H : Heap} {locs : List Loc} {cells slots : Nat} {free : Addr → Prop} {ls : Array Slot} {rest : List Value} {Qc : Array Value → State → Outcome → State → Prop} {XC : String → State → State → Prop}
    {pc : Nat} {own E : String} {ce : Cell} {q : Addr} {mc ms : Nat} (hown : s.vm.findClass own = some m.cls) (hlocks : meth.locks = false)
    (hpass : ∀ z ∈ c.exceptionTable.toList, covers z pc = false ∨ (z.catchType ≠ 0 ∧ ∃ nm : String, (Cond.classLink own z.catchType nm).before args s = true ∧ va_Nc E nm s)) (hcell : H[q]? = some ce) (hv : ce.vm = .none) (hcl : s.vm.findClass E = some ce.cls)
    (hx : ∀ t : State, t.heap = H → s.vm.Alike t.vm → XC E s t) (hf : ∀ z ∈ locs, free z.base) (hc : cells ≤ mc) (hs : slots ≤ ms) :
    vx_W p l e R s m args below meth c H locs cells slots (vx_MQ below Qc XC args s mc ms free) (F0 m pc ls rest) q := by
  intro T hT X
  have hpl : e.platform.magicAccessors = ({} : Platform).magicAccessors := by rw [X.admits.platform]
  obtain ⟨vm', hW', X', st⟩ := X.outThrough hlocks q (g := F0 m pc ls rest) rfl rfl rfl (cell := ce) (by rw [hT]; exact hcell) (by rw [hv]; rfl)
    (by obtain ⟨k9, h9, -⟩ := Vm.findClass_spec hcl; exact ⟨k9, h9⟩) (fun z hz => by
      rcases hpass z hz with h | ⟨hz0, nm, hl1, hn1⟩
      · exact Or.inl h
      · obtain ⟨c6, hc6, hcl6⟩ := Cond.classLink_spec hown hl1 e.platform hpl
        obtain ⟨a8, b8, h1, h2, h3⟩ := hn1
        cases Option.some.inj (h1.symm.trans hcl)
        cases Option.some.inj (h2.symm.trans hc6)
        exact Or.inr ⟨hz0, _, hcl6, h3⟩)
  obtain ⟨g₀, hfr⟩ := X'.frames_eq
  have hcell9 : ((T.setVm vm').setFrames (.throwing q :: below)).heap[q]? = some ce := by
    show T.heap[q]? = some ce
    rw [hT]; exact hcell
  have hend : Ended ((T.setVm vm').setFrames (.throwing q :: below)) below (.threw q) := State.frames_setFrames _ (State.cur_lt_of_frames hfr)
  refine ⟨(T.setVm vm').setFrames (.throwing q :: below), ?_, .threw q, X'.here.running, hend, Or.inr ⟨q, rfl, E, ce, locs, hx _ hT (X'.ends _).1.alike, hcell9, hv, hcl, (X'.ends _).1, (X'.ends _).2.mono hc hs, hf⟩⟩
  rw [X.pushThrowing_eq]
  exact st
/-- a thing of a world lies in the heap -/
theorem vx_lt {D : va_G} {cl : List vw_C} {ws : va_W} {H1 : Heap} (h : va_P D cl ws H1) {k : Nat} {q : Nat × va_E} (hk : ws[k]? = some q) : q.1 < H1.size := (h k q hk).lt
end VXS
/-! ===== END ===== -/
/-! ===== BEGIN methods with a table of their own: called by a name, returning or throwing ===== -/
section VXH
/-! vx_backW, vx_callVX, vx_callSX, vx_callVW, vx_runVW, vx_runVX, vx_runSX, vx_ofWH follow the same proofs as their sisters above (Free/Laws.lean, Shelf42/LK1.lean); vx_outP calls Shelf42/NT130.lean (outThrough). -/
section
variable {l : Launch} {R : Room} {p : Program} {e : Env} {below : List Frame} {s : State} {sargs : Array Value} {y : MethodName} {len W9 : Nat}
theorem vx_backW {ws : List Cond} {rm : Room} {Pc : Array Value → State → Prop} {Qc : Array Value → State → Outcome → State → Prop} {XC : String → State → State → Prop} {mc ms : Nat} {free : Addr → Prop} {bytes : ByteArray} {maxL : Nat} {ret : Option FieldType} {hh : List (Nat × Nat × Nat × Nat)}
    (hM : vx_Met l y ws rm Pc Qc XC mc ms free) (hblind : FrameBlind Pc) (hrc : rm.cells = mc) (hrs : rm.slots = ms)
    (hframes : rm.frames + 1 ≤ R.frames) (hlocals : W9 + (maxL + 11) + rm.locals ≤ R.locals)
    (hws : ∀ w ∈ ws, ∀ a' U, s.WarmedH U.vm → w.before a' U = true) (hcode : Cond.codeWith y bytes maxL ret hh ∈ ws) (hinit : ∀ a' U, s.WarmedH U.vm → (Cond.initialized y.cls).before a' U = true) :
    vx_Back l R p e below s sargs y len W9 (PreOf R mc ms Pc) (PostOf Qc mc ms free) (vx_Post XC mc ms free) := by
  intro m meth c A g ig mk a X hg hsize hdg hW hn hp
  have h1 : (headSpec ws rm).pre.before a A.U = true := atoms_intro fun w hw => hws w hw _ _ X.warmed
  have h2 : (Cond.codeWith y bytes maxL ret hh).before a A.U = true := hws _ hcode _ _ X.warmed
  have h3 : (Cond.initialized y.cls).before a A.U = true := hinit _ _ X.warmed
  have h4 : A.cells + (headSpec ws rm).room.cells ≤ R.cells := by rw [show (headSpec ws rm).room.cells = mc from hrc]; exact hp.1
  have h5 : A.slots + (headSpec ws rm).room.slots ≤ R.slots := by rw [show (headSpec ws rm).room.slots = ms from hrs]; exact hp.2.1
  have hPc : Pc a (A.U.calling g mk a) := hblind _ _ _ _ hp.2.2
  obtain ⟨U, Ls, c0, s0⟩ := A
  dsimp only [Pt.U, Pt.locs, Pt.cells, Pt.slots] at h1 h2 h3 h4 h5 X hn hPc ⊢
  obtain ⟨m9, methY, cY, hn9, hmY, hcY, -, hlY, -⟩ := Cond.codeWith_spec h2
  cases Option.some.inj (hn9.symm.trans hn)
  obtain ⟨kY, hkY, -⟩ := className_of_methodNamed hn
  have hinitY : kY.init = .initialized := Cond.initialized_spec (findClass_of_methodNamed hn) hkY h3
  have h : At U g.method c below := by rw [hg]; exact X.here
  have hlocals9 : W9 + (maxL + 11) + (headSpec ws rm).room.locals ≤ R.locals := hlocals
  have happ : (headSpec ws rm).appliesLoose y e.platform (U.calling g mk a) = true :=
    Spec.appliesLoose_calling (g := g) h hdg hn hkY hinitY
      (X.room_calling (g := g) (R' := (headSpec ws rm).room) hsize hmY hcY hframes (by rw [hlY]; omega) h4 h5) h1
  obtain ⟨mid, hmid⟩ := h.above
  have hfr : (U.setTop g).frames = (.java g :: mid) ++ below := by rw [State.frames_setTop' g h.top, hmid]; rfl
  obtain ⟨o, s₂, hsteps, -, hend, hq⟩ := Steps.callFree hM p X.admits X.cas X.clock (acts := []) hfr happ hPc trivial
  have hq' : vx_Q Qc XC mc ms free a (U.calling g mk a) o s₂ := hq
  rw [State.frames_setTop' g h.top] at hend
  obtain ⟨g₀, hg0⟩ := Option.isSome_iff_exists.mp h.top
  obtain ⟨r, hr⟩ := State.topJava?_eq_some.mp hg0
  have hr' : (({ U with heap := s₂.heap, slotsUsed := s₂.slotsUsed } : State).setVm s₂.vm).frames = .java g₀ :: r := hr
  rcases hq' with ⟨hqc, L, hfe, hL⟩ | ⟨q, rfl, E, ce, L, hx, hce, hcv, hcl, hW₂, hsm, hL⟩
  · obtain ⟨⟨v, rfl⟩, hW₂, e2, q2, q3, q4, q5, q6⟩ := id hfe
    have e3 : s₂ = ({ (U.calling g mk a).setFrames s₂.frames with heap := s₂.heap, slotsUsed := s₂.slotsUsed } : State).setVm s₂.vm := by
      have : s₂ = ({ s₂ with vm := (U.calling g mk a).vm } : State).setVm s₂.vm := rfl
      rw [e2] at this
      exact this
    obtain ⟨c₂, i₂, len₂, hc₂, hd₂, hf₂⟩ := hend
    have hW' : U.WarmedH s₂.vm := hW₂
    have hcc : c₂ = c := by
      have h1 : s₂.code? g.method = U.code? g.method := by
        rw [State.code?_eq, State.code?_eq, hW'.alike.method?]
      exact Option.some.inj (hc₂.symm.trans (h1.trans h.code))
    subst hcc
    have hlen : len₂ = len := by rw [hdg] at hd₂; cases hd₂; rfl
    subst hlen
    have hs₂ : s₂ = (({ U with heap := s₂.heap, slotsUsed := s₂.slotsUsed } : State).setVm s₂.vm).setTop { g with pc := g.pc + len₂, stack := v.toList ++ g.stack } := by
      refine e3.trans ?_
      rw [hf₂, State.calling_eq h.top, State.setFrames_setFrames, State.setTop_of_frames _ hr', hr]
      rfl
    have hsame : U.sameButNew ({ U with heap := s₂.heap, slotsUsed := s₂.slotsUsed } : State) L mc ms := by
      refine ⟨?_, q2, q3, q4, q5, q6⟩
      obtain ⟨t, ht, -⟩ := State.frames_cons hr
      show ({ U with heap := s₂.heap, slotsUsed := s₂.slotsUsed } : State) = { U.setFrames U.frames with heap := s₂.heap, slotsUsed := s₂.slotsUsed }
      rw [State.setFrames_self ht]
    subst hg
    refine Or.inl ⟨v, ⟨(({ U with heap := s₂.heap, slotsUsed := s₂.slotsUsed } : State).setVm s₂.vm), Ls ++ L, c0 + mc, s0 + ms⟩,
      ⟨X.admits, X.cas, X.clock, X.frames, X.room, X.hears, X.method, X.code, (X.here.setHeapUsed s₂.heap s₂.slotsUsed).setVm hW'.alike, X.tail, State.WarmedH.trans X.warmed hW', X.limits, X.bytes, X.same.trans (hsame.setVm s.vm)⟩,
      ⟨g, mk, s₂, L, rfl, rfl, hqc, rfl, hL, rfl, rfl⟩, ?_⟩
    show Steps p.tables e below _ ((({ U with heap := s₂.heap, slotsUsed := s₂.slotsUsed } : State).setVm s₂.vm).setTop { g with pc := g.pc + len₂, stack := v.toList ++ g.stack })
    rw [← hs₂]
    exact hsteps
  · obtain ⟨e2, q2, q3, q4, q5, q6⟩ := id hsm
    have e3 : s₂ = ({ (U.calling g mk a).setFrames s₂.frames with heap := s₂.heap, slotsUsed := s₂.slotsUsed } : State).setVm s₂.vm := by
      have : s₂ = ({ s₂ with vm := (U.calling g mk a).vm } : State).setVm s₂.vm := rfl
      rw [e2] at this
      exact this
    have hf₂ : s₂.frames = .throwing q :: .java g :: U.frames.tail := hend
    have hW' : U.WarmedH s₂.vm := hW₂
    have hs₂ : s₂ = ((({ U with heap := s₂.heap, slotsUsed := s₂.slotsUsed } : State).setVm s₂.vm).setTop g).pushFrame (.throwing q) := by
      refine e3.trans ?_
      rw [hf₂, State.calling_eq h.top, State.setFrames_setFrames, State.pushFrame, State.frames_setTop _ hr', State.setTop_of_frames _ hr', State.setFrames_setFrames, hr]
      rfl
    have hsame : U.sameButNew ({ U with heap := s₂.heap, slotsUsed := s₂.slotsUsed } : State) L mc ms := by
      refine ⟨?_, q2, q3, q4, q5, q6⟩
      obtain ⟨t, ht, -⟩ := State.frames_cons hr
      show ({ U with heap := s₂.heap, slotsUsed := s₂.slotsUsed } : State) = { U.setFrames U.frames with heap := s₂.heap, slotsUsed := s₂.slotsUsed }
      rw [State.setFrames_self ht]
    subst hg
    refine Or.inr ⟨q, ⟨(({ U with heap := s₂.heap, slotsUsed := s₂.slotsUsed } : State).setVm s₂.vm), Ls ++ L, c0 + mc, s0 + ms⟩,
      ⟨X.admits, X.cas, X.clock, X.frames, X.room, X.hears, X.method, X.code, (X.here.setHeapUsed s₂.heap s₂.slotsUsed).setVm hW'.alike, X.tail, State.WarmedH.trans X.warmed hW', X.limits, X.bytes, X.same.trans (hsame.setVm s.vm)⟩,
      ⟨g, mk, s₂, L, E, ce, rfl, rfl, hx, hce, hcv, hcl, rfl, hL, rfl, rfl⟩, ?_⟩
    show Steps p.tables e below _ (((({ U with heap := s₂.heap, slotsUsed := s₂.slotsUsed } : State).setVm s₂.vm).setTop g).pushFrame (.throwing q))
    rw [← hs₂]
    exact hsteps
end
variable {p : Program} {l : Launch} {e : Env} {R : Room} {s : State} {m : MethodId} {args : Array Value} {below : List Frame} {meth : Method} {c : Code} {T : State} {H : Heap} {locs : List Loc} {cells slots : Nat}
theorem vx_callVX (X : Stand p l e R s m args below meth c T locs cells slots) (hexec : p.tables.exec = Jvm.exec) {own C : String} {index : Nat} {y : MethodName} {bytes : ByteArray} {maxL : Nat} {ret : Option FieldType} {hh : List (Nat × Nat × Nat × Nat)}
    (hown : s.vm.findClass own = some m.cls) (hlink : (Cond.methodLink own index y).before args s = true) (hinst : (Cond.instanceMethod y).before args s = true) (hsel : (Cond.selects C y y).before args s = true)
    (hcode : (Cond.codeWith y bytes maxL ret hh).before args s = true) (hy : y.cls ≠ "java/lang/invoke/MethodHandle" ∧ y.cls ≠ "java/lang/invoke/VarHandle")
    {W9 : Nat} {Pre : Pt → Array Value → Prop} {Post : Pt → Array Value → Option Value → Pt → Prop} {PostX : Pt → Array Value → Addr → Pt → Prop} (hK : vx_Back l R p e below s args y 3 W9 Pre Post PostX)
    {b : Addr} {cellB : Cell} (hcell : T.heap[b]? = some cellB) (hobj : cellB.vm.isStatics = false) (hcls : s.vm.findClass C = some cellB.cls)
    {g : JFrame} (hg : g.method = m) (hsize : g.locals.size = c.maxLocals) {argsL rest : List Value} (hlen : ∀ sig, parseMethodDescriptor y.desc = some sig → argsL.length = sig.parameters.length)
    (hstack : g.stack = argsL.reverse ++ .ref b :: rest) (hW : 2 * g.monitorRoom + (rest.map fun v => v.category).sum ≤ W9) (hdg : decode c.code g.pc = .ok (.invokevirtual index, 3))
    (hpre : ∀ vm₁, s.WarmedH vm₁ → Pre ⟨T.setVm vm₁, locs, cells, slots⟩ (Value.ref b :: argsL).toArray) :
    (∃ (v : Option Value) (vm₁ : Vm) (B : Pt), s.WarmedH vm₁ ∧ Stand p l e R s m args below meth c B.U B.locs B.cells B.slots ∧ Post ⟨T.setVm vm₁, locs, cells, slots⟩ (Value.ref b :: argsL).toArray v B ∧
      ∀ target, Steps p.tables e below (B.U.setTop { g with pc := g.pc + 3, stack := v.toList ++ rest }) target → Steps p.tables e below (T.setTop g) target) ∨
    (∃ (q : Addr) (vm₁ : Vm) (B : Pt), s.WarmedH vm₁ ∧ Stand p l e R s m args below meth c B.U B.locs B.cells B.slots ∧ PostX ⟨T.setVm vm₁, locs, cells, slots⟩ (Value.ref b :: argsL).toArray q B ∧
      Steps p.tables e below (T.setTop g) ((B.U.setTop { g with stack := rest }).pushFrame (.throwing q))) := by
  obtain ⟨mk, methM, hnamed, hmethM, hstM, habM⟩ := Cond.instanceMethod_spec hinst
  obtain ⟨m8, methM', cM, hn8, hmethM', -, -, -, -, -, -, hsigM⟩ := Cond.codeWith_spec hcode
  cases Option.some.inj (hn8.symm.trans hnamed)
  cases hmethM.symm.trans hmethM'
  obtain ⟨c2, r2, m2, q1, q2, q3, q4, kP, hkP, hkPi⟩ := Cond.selects_spec hsel
  cases hcls.symm.trans q1
  cases (State.methodFound?_of_named hnamed hy).symm.trans q2
  cases hnamed.symm.trans q3
  have hselP : selectMethod e.platform s.vm cellB.cls mk = .method mk := by rw [Launch.admits_selectMethod X.admits]; exact q4
  obtain ⟨vm₁, X₁, hstep₁⟩ := X.invokevirtual hexec hown hlink hnamed hmethM hstM hkP hkPi hy (a := b) (cell := cellB) hcell
    (fun z h => by rw [h] at hobj; cases hobj) hselP hmethM habM hkP hkPi (g := g) hg (argsL := argsL) (rest := rest) (hlen _ hsigM) hstack hdg
  rcases hK m meth c ⟨T.setVm vm₁, locs, cells, slots⟩ { g with stack := rest } (.invokevirtual index) mk (Value.ref b :: argsL).toArray X₁ hg hsize hdg hW (X₁.named hnamed) (hpre vm₁ X₁.warmed) with ⟨v, B, X', hpost, hsteps⟩ | ⟨q, B, X', hpost, hsteps⟩
  · exact Or.inl ⟨v, vm₁, B, X₁.warmed, X', hpost, fun target h => hstep₁ _ fun acts => by rw [doInvoke_state]; exact hsteps.trans h⟩
  · exact Or.inr ⟨q, vm₁, B, X₁.warmed, X', hpost, hstep₁ _ fun acts => by rw [doInvoke_state]; exact hsteps⟩
theorem vx_callSX (X : Stand p l e R s m args below meth c T locs cells slots) (hexec : p.tables.exec = Jvm.exec) {own : String} {index : Nat} {y : MethodName} {bytes : ByteArray} {maxL : Nat} {ret : Option FieldType} {hh : List (Nat × Nat × Nat × Nat)}
    (hown : s.vm.findClass own = some m.cls) (hlink : (Cond.methodLink own index y).before args s = true) (hstat : (Cond.static y).before args s = true) (hinit : (Cond.initialized y.cls).before args s = true)
    (hcode : (Cond.codeWith y bytes maxL ret hh).before args s = true) (hy : y.cls ≠ "java/lang/invoke/MethodHandle" ∧ y.cls ≠ "java/lang/invoke/VarHandle")
    {W9 : Nat} {Pre : Pt → Array Value → Prop} {Post : Pt → Array Value → Option Value → Pt → Prop} {PostX : Pt → Array Value → Addr → Pt → Prop} (hK : vx_Back l R p e below s args y 3 W9 Pre Post PostX)
    {g : JFrame} (hg : g.method = m) (hsize : g.locals.size = c.maxLocals) {argsL rest : List Value} (hlen : ∀ sig, parseMethodDescriptor y.desc = some sig → argsL.length = sig.parameters.length)
    (hstack : g.stack = argsL.reverse ++ rest) (hW : 2 * g.monitorRoom + (rest.map fun v => v.category).sum ≤ W9) (hdg : decode c.code g.pc = .ok (.invokestatic index, 3))
    (hpre : ∀ vm₁, s.WarmedH vm₁ → Pre ⟨T.setVm vm₁, locs, cells, slots⟩ argsL.toArray) :
    (∃ (v : Option Value) (vm₁ : Vm) (B : Pt), s.WarmedH vm₁ ∧ Stand p l e R s m args below meth c B.U B.locs B.cells B.slots ∧ Post ⟨T.setVm vm₁, locs, cells, slots⟩ argsL.toArray v B ∧
      ∀ target, Steps p.tables e below (B.U.setTop { g with pc := g.pc + 3, stack := v.toList ++ rest }) target → Steps p.tables e below (T.setTop g) target) ∨
    (∃ (q : Addr) (vm₁ : Vm) (B : Pt), s.WarmedH vm₁ ∧ Stand p l e R s m args below meth c B.U B.locs B.cells B.slots ∧ PostX ⟨T.setVm vm₁, locs, cells, slots⟩ argsL.toArray q B ∧
      Steps p.tables e below (T.setTop g) ((B.U.setTop { g with stack := rest }).pushFrame (.throwing q))) := by
  obtain ⟨mk, methM, cM, hnamed, hmethM, -, -, -, -, -, -, hsigM⟩ := Cond.codeWith_spec hcode
  have hstatic : methM.isStatic = true := Cond.static_spec hnamed hmethM hstat
  obtain ⟨kP, hkP, -⟩ := className_of_methodNamed hnamed
  have hinitP : kP.init = .initialized := Cond.initialized_spec (findClass_of_methodNamed hnamed) hkP hinit
  obtain ⟨vm₁, X₁, hstep₁⟩ := X.invokestatic hexec hown hlink hnamed hmethM hstatic hkP hinitP hy (g := g) hg (argsL := argsL) (rest := rest) (hlen _ hsigM) hstack hdg
  rcases hK m meth c ⟨T.setVm vm₁, locs, cells, slots⟩ { g with stack := rest } (.invokestatic index) mk argsL.toArray X₁ hg hsize hdg hW (X₁.named hnamed) (hpre vm₁ X₁.warmed) with ⟨v, B, X', hpost, hsteps⟩ | ⟨q, B, X', hpost, hsteps⟩
  · exact Or.inl ⟨v, vm₁, B, X₁.warmed, X', hpost, fun target h => hstep₁ _ fun acts => by rw [doInvoke_state]; exact hsteps.trans h⟩
  · exact Or.inr ⟨q, vm₁, B, X₁.warmed, X', hpost, hstep₁ _ fun acts => by rw [doInvoke_state]; exact hsteps⟩
theorem vx_callVW (X : Stand p l e R s m args below meth c T locs cells slots) (hexec : p.tables.exec = Jvm.exec) {own C : String} {index : Nat} {y : MethodName} {bytes : ByteArray} {maxL : Nat} {ret : Option FieldType} {hh : List (Nat × Nat × Nat × Nat)}
    (hown : s.vm.findClass own = some m.cls) (hlink : (Cond.methodLink own index y).before args s = true) (hinst : (Cond.instanceMethod y).before args s = true) (hsel : (Cond.selects C y y).before args s = true)
    (hcode : (Cond.codeWith y bytes maxL ret hh).before args s = true) (hy : y.cls ≠ "java/lang/invoke/MethodHandle" ∧ y.cls ≠ "java/lang/invoke/VarHandle")
    {W9 : Nat} {Pre : Pt → Array Value → Prop} {Post : Pt → Array Value → Option Value → Pt → Prop} (hK : Back l R p e below s args y 3 W9 Pre Post)
    {b : Addr} {cellB : Cell} (hcell : T.heap[b]? = some cellB) (hobj : cellB.vm.isStatics = false) (hcls : s.vm.findClass C = some cellB.cls)
    {g : JFrame} (hg : g.method = m) (hsize : g.locals.size = c.maxLocals) {argsL rest : List Value} (hlen : ∀ sig, parseMethodDescriptor y.desc = some sig → argsL.length = sig.parameters.length)
    (hstack : g.stack = argsL.reverse ++ .ref b :: rest) (hW : 2 * g.monitorRoom + (rest.map fun v => v.category).sum ≤ W9) (hdg : decode c.code g.pc = .ok (.invokevirtual index, 3))
    (hpre : ∀ vm₁, s.WarmedH vm₁ → Pre ⟨T.setVm vm₁, locs, cells, slots⟩ (Value.ref b :: argsL).toArray) :
    ∃ (v : Option Value) (vm₁ : Vm) (B : Pt), s.WarmedH vm₁ ∧ Stand p l e R s m args below meth c B.U B.locs B.cells B.slots ∧ Post ⟨T.setVm vm₁, locs, cells, slots⟩ (Value.ref b :: argsL).toArray v B ∧
      ∀ target, Steps p.tables e below (B.U.setTop { g with pc := g.pc + 3, stack := v.toList ++ rest }) target → Steps p.tables e below (T.setTop g) target := by
  obtain ⟨mk, methM, hnamed, hmethM, hstM, habM⟩ := Cond.instanceMethod_spec hinst
  obtain ⟨m8, methM', cM, hn8, hmethM', -, -, -, -, -, -, hsigM⟩ := Cond.codeWith_spec hcode
  cases Option.some.inj (hn8.symm.trans hnamed)
  cases hmethM.symm.trans hmethM'
  obtain ⟨c2, r2, m2, q1, q2, q3, q4, kP, hkP, hkPi⟩ := Cond.selects_spec hsel
  cases hcls.symm.trans q1
  cases (State.methodFound?_of_named hnamed hy).symm.trans q2
  cases hnamed.symm.trans q3
  have hselP : selectMethod e.platform s.vm cellB.cls mk = .method mk := by rw [Launch.admits_selectMethod X.admits]; exact q4
  obtain ⟨vm₁, X₁, hstep₁⟩ := X.invokevirtual hexec hown hlink hnamed hmethM hstM hkP hkPi hy (a := b) (cell := cellB) hcell
    (fun z h => by rw [h] at hobj; cases hobj) hselP hmethM habM hkP hkPi (g := g) hg (argsL := argsL) (rest := rest) (hlen _ hsigM) hstack hdg
  obtain ⟨v, B, X', hpost, hsteps⟩ := hK m meth c ⟨T.setVm vm₁, locs, cells, slots⟩ { g with stack := rest } (.invokevirtual index) mk (Value.ref b :: argsL).toArray X₁ hg hsize hdg hW (X₁.named hnamed) (hpre vm₁ X₁.warmed)
  exact ⟨v, vm₁, B, X₁.warmed, X', hpost, fun target h => hstep₁ _ fun acts => by rw [doInvoke_state]; exact hsteps.trans h⟩
abbrev vx_CVW (R : Room) (s : State) (args : Array Value) (own C : String) (index : Nat) (y : MethodName) (bytes : ByteArray) (maxL : Nat) (ret : Option FieldType) (hh : List (Nat × Nat × Nat × Nat)) (ws : List Cond) (rm : Room) (mc ms n : Nat) : Prop :=
  (rm.cells = mc ∧ rm.slots = ms ∧ rm.frames + 1 ≤ R.frames ∧ 8 + (maxL + 11) + rm.locals ≤ R.locals ∧ (∀ w ∈ ws, ∀ (a' : Array Value) (U : State), s.WarmedH U.vm → w.before a' U = true) ∧ Cond.codeWith y bytes maxL ret hh ∈ ws) ∧
  (Cond.codeWith y bytes maxL ret hh).before args s = true ∧ (Cond.initialized y.cls).before args s = true ∧ (y.cls ≠ "java/lang/invoke/MethodHandle" ∧ y.cls ≠ "java/lang/invoke/VarHandle") ∧
  (∀ sig, parseMethodDescriptor y.desc = some sig → n = sig.parameters.length) ∧ (Cond.methodLink own index y).before args s = true ∧ (Cond.instanceMethod y).before args s = true ∧ (Cond.selects C y y).before args s = true
theorem vx_cwVW {own C : String} {index maxL mc ms : Nat} {y : MethodName} {bytes : ByteArray} {ret : Option FieldType} {hh : List (Nat × Nat × Nat × Nat)} {Ts ws ws' : List Cond} {rm : Room} (n : Nat) (ht : ∀ w ∈ Ts, w.before args s = true) (hT : GoodIn Ts (wsV own index C y ws)) (hw : ws = Cond.codeWith y bytes maxL ret hh :: ws') (hrc : rm.cells = mc) (hrs : rm.slots = ms)
    (hd : y.cls = C ∧ y.cls ≠ "java/lang/invoke/MethodHandle" ∧ y.cls ≠ "java/lang/invoke/VarHandle" ∧ (parseMethodDescriptor y.desc).map (fun d => d.parameters.length) = some n) (hR : rm.frames + 1 ≤ R.frames ∧ 8 + (maxL + 11) + rm.locals ≤ R.locals) :
    vx_CVW R s args own C index y bytes maxL ret hh ws rm mc ms n := by
  obtain ⟨hC, hd⟩ := hd
  subst hC
  have ok : ∀ w ∈ wsV own index y.cls y ws, w.before args s = true := fun w h => ht w (hT w h).1
  have hG : GoodIn Ts ws := fun w h => hT w (by unfold wsV; exact List.mem_append_right _ h)
  have hc : Cond.codeWith y bytes maxL ret hh ∈ ws := by rw [hw]; exact List.mem_cons_self
  refine ⟨⟨hrc, hrs, hR.1, hR.2, pay_in ht hG, hc⟩, ht _ (hG _ hc).1, ok _ (by simp [wsV]), ⟨hd.1, hd.2.1⟩, fun sig h => ?_, ok _ (by simp [wsV]), ok _ (by simp [wsV]), ok _ (by simp [wsV])⟩
  have h2 := hd.2.2
  rw [h] at h2
  exact (Option.some.inj h2).symm
theorem vx_runVW {y : MethodName} {bytes cc : ByteArray} {maxL nL mc ms n index : Nat} {ret : Option FieldType} {hh : List (Nat × Nat × Nat × Nat)} {ws : List Cond} {rm : Room} {Pc : Array Value → State → Prop} {Qc : Array Value → State → Outcome → State → Prop} {free : Addr → Prop} {Ts : List Cond} {own C : String} {b : Addr} {As rest : List Value} {g : JFrame}
    (S : CallFix p m c cc nL s args Ts own) (hM : Met l y ws rm Pc Qc mc ms free) (cw : vx_CVW R s args own C index y bytes maxL ret hh ws rm mc ms n) (hp : PreV s H C b Pc As)
    (hg : g.method = m) (hn : As.length = n) (hsize : g.locals.size = nL) (hstack : g.stack = As.reverse ++ .ref b :: rest) (hW : 2 * g.monitorRoom + (rest.map fun v => v.category).sum ≤ 8) (hdg : decode cc g.pc = .ok (.invokevirtual index, 3)) (hf : cells + mc ≤ R.cells ∧ slots + ms ≤ R.slots) :
    va_Run p l e R s m args below meth c H locs cells slots mc ms g rest (Qc (Value.ref b :: As).toArray) free := by
  obtain ⟨⟨hrc, hrs, hfr, hlo, hws, hcw⟩, hcode, hini, hy, hlen, hl, hin, hse⟩ := cw
  have hK : Back l R p e below s args y 3 8 (PreOf R mc ms Pc) (PostOf Qc mc ms free) := va_backW (hh := hh) (bytes := bytes) (maxL := maxL) (ret := ret) hM hp.1 hrc hrs hfr hlo hws hcw (fun a' U hW => word_at hW (Or.inl (by first | rfl | simp [Cond.onTables, Cond.keeps, Cond.steady])) hini)
  obtain ⟨hx, hb, hml, ho, -⟩ := S
  obtain ⟨-, ⟨cellB, hcB, hoB, hclB⟩, hPc⟩ := hp
  intro T hT X
  obtain ⟨v, vm₁, ⟨U', l2, c2, s2⟩, hW₁, X', ⟨g', mk, t, L, e1, e2, hq, h1, hL, h2, h3⟩, st⟩ := vx_callVW X hx (C := C) (hh := hh) (bytes := bytes) (maxL := maxL) (ret := ret) ho hl hin hse hcode hy hK (by rw [hT]; exact hcB) hoB hclB hg (hsize.trans hml.symm) (argsL := As) (rest := rest) (fun sig h => hn.trans (hlen sig h)) hstack hW (by rw [hb]; exact hdg)
    (fun vm₁ hW₁ => ⟨hf.1, hf.2, hPc (T.setVm vm₁) hT hW₁⟩)
  dsimp only [Pt.U, Pt.locs, Pt.cells, Pt.slots] at X' e1 e2 h1 h2 h3 st
  subst h1; subst h2; subst h3
  exact ⟨v, (T.setVm vm₁).calling g' mk (Value.ref b :: As).toArray, t, U', L, hT, X', hL, e1, e2, hq, st⟩
section
variable {y : MethodName} {bytes cc : ByteArray} {maxL nL mc ms n index : Nat} {ret : Option FieldType} {ws : List Cond} {rm : Room} {Pc : Array Value → State → Prop} {Qc : Array Value → State → Outcome → State → Prop} {XC : String → State → State → Prop} {free : Addr → Prop} {Ts : List Cond} {own C : String} {b : Addr} {As rest : List Value} {g : JFrame}
theorem vx_runVX {hh : List (Nat × Nat × Nat × Nat)} (S : CallFix p m c cc nL s args Ts own) (hM : vx_Met l y ws rm Pc Qc XC mc ms free) (cw : vx_CVW R s args own C index y bytes maxL ret hh ws rm mc ms n) (hp : PreV s H C b Pc As)
    (hg : g.method = m) (hn : As.length = n) (hsize : g.locals.size = nL) (hstack : g.stack = As.reverse ++ .ref b :: rest) (hW : 2 * g.monitorRoom + (rest.map fun v => v.category).sum ≤ 8) (hdg : decode cc g.pc = .ok (.invokevirtual index, 3)) (hf : cells + mc ≤ R.cells ∧ slots + ms ≤ R.slots) :
    vx_Run p l e R s m args below meth c H locs cells slots mc ms g rest (Qc (Value.ref b :: As).toArray) XC free := by
  obtain ⟨⟨hrc, hrs, hfr, hlo, hws, hcw⟩, hcode, hini, hy, hlen, hl, hin, hse⟩ := cw
  have hK : vx_Back l R p e below s args y 3 8 (PreOf R mc ms Pc) (PostOf Qc mc ms free) (vx_Post XC mc ms free) := vx_backW (hh := hh) (bytes := bytes) (maxL := maxL) (ret := ret) hM hp.1 hrc hrs hfr hlo hws hcw (fun a' U hW => word_at hW (Or.inl (by first | rfl | simp [Cond.onTables, Cond.keeps, Cond.steady])) hini)
  obtain ⟨hx, hb, hml, ho, -⟩ := S
  obtain ⟨-, ⟨cellB, hcB, hoB, hclB⟩, hPc⟩ := hp
  intro T hT X
  rcases vx_callVX X hx (C := C) (hh := hh) (bytes := bytes) (maxL := maxL) (ret := ret) ho hl hin hse hcode hy hK (by rw [hT]; exact hcB) hoB hclB hg (hsize.trans hml.symm) (argsL := As) (rest := rest) (fun sig h => hn.trans (hlen sig h)) hstack hW (by rw [hb]; exact hdg)
    (fun vm₁ hW₁ => ⟨hf.1, hf.2, hPc (T.setVm vm₁) hT hW₁⟩) with ⟨v, vm₁, ⟨U', l2, c2, s2⟩, hW₁, X', ⟨g', mk, t, L, e1, e2, hq, h1, hL, h2, h3⟩, st⟩ | ⟨q, vm₁, ⟨U', l2, c2, s2⟩, hW₁, X', ⟨g', mk, t, L, E, ce, e1, e2, hq, hce, hcv, hcl, h1, hL, h2, h3⟩, st⟩
  · dsimp only [Pt.U, Pt.locs, Pt.cells, Pt.slots] at X' e1 e2 h1 h2 h3 st
    subst h1; subst h2; subst h3
    exact Or.inl ⟨v, (T.setVm vm₁).calling g' mk (Value.ref b :: As).toArray, t, U', L, hT, X', hL, e1, e2, hq, st⟩
  · dsimp only [Pt.U, Pt.locs, Pt.cells, Pt.slots] at X' e1 e2 h1 h2 h3 st hcl
    subst h1; subst h2; subst h3
    exact Or.inr ⟨q, (T.setVm vm₁).calling g' mk (Value.ref b :: As).toArray, t, U', L, E, ce, hT, X', hL, e1, e2, hq, hce, hcv, vx_cls hW₁ hcl, st⟩
theorem vx_runSX {hh : List (Nat × Nat × Nat × Nat)} (S : CallFix p m c cc nL s args Ts own) (hM : vx_Met l y ws rm Pc Qc XC mc ms free) (cw : vx_CSW R s args own index y bytes maxL ret hh ws rm mc ms n) (hp : PreS s H Pc As)
    (hg : g.method = m) (hn : As.length = n) (hsize : g.locals.size = nL) (hstack : g.stack = As.reverse ++ rest) (hW : 2 * g.monitorRoom + (rest.map fun v => v.category).sum ≤ 8) (hdg : decode cc g.pc = .ok (.invokestatic index, 3)) (hf : cells + mc ≤ R.cells ∧ slots + ms ≤ R.slots) :
    vx_Run p l e R s m args below meth c H locs cells slots mc ms g rest (Qc As.toArray) XC free := by
  obtain ⟨⟨hrc, hrs, hfr, hlo, hws, hcw⟩, hcode, hini, hy, hlen, hl, hstt⟩ := cw
  have hK : vx_Back l R p e below s args y 3 8 (PreOf R mc ms Pc) (PostOf Qc mc ms free) (vx_Post XC mc ms free) := vx_backW (hh := hh) (bytes := bytes) (maxL := maxL) (ret := ret) hM hp.1 hrc hrs hfr hlo hws hcw (fun a' U hW => word_at hW (Or.inl (by first | rfl | simp [Cond.onTables, Cond.keeps, Cond.steady])) hini)
  obtain ⟨hx, hb, hml, ho, -⟩ := S
  intro T hT X
  rcases vx_callSX X hx (hh := hh) (bytes := bytes) (maxL := maxL) (ret := ret) ho hl hstt hini hcode hy hK hg (hsize.trans hml.symm) (argsL := As) (rest := rest) (fun sig h => hn.trans (hlen sig h)) hstack hW (by rw [hb]; exact hdg)
    (fun vm₁ hW₁ => ⟨hf.1, hf.2, hp.2 (T.setVm vm₁) hT hW₁⟩) with ⟨v, vm₁, ⟨U', l2, c2, s2⟩, hW₁, X', ⟨g', mk, t, L, e1, e2, hq, h1, hL, h2, h3⟩, st⟩ | ⟨q, vm₁, ⟨U', l2, c2, s2⟩, hW₁, X', ⟨g', mk, t, L, E, ce, e1, e2, hq, hce, hcv, hcl, h1, hL, h2, h3⟩, st⟩
  · dsimp only [Pt.U, Pt.locs, Pt.cells, Pt.slots] at X' e1 e2 h1 h2 h3 st
    subst h1; subst h2; subst h3
    exact Or.inl ⟨v, (T.setVm vm₁).calling g' mk As.toArray, t, U', L, hT, X', hL, e1, e2, hq, st⟩
  · dsimp only [Pt.U, Pt.locs, Pt.cells, Pt.slots] at X' e1 e2 h1 h2 h3 st hcl
    subst h1; subst h2; subst h3
    exact Or.inr ⟨q, (T.setVm vm₁).calling g' mk As.toArray, t, U', L, E, ce, hT, X', hL, e1, e2, hq, hce, hcv, vx_cls hW₁ hcl, st⟩
end
end VXH
theorem vx_ofWH {l : Launch} {y : MethodName} {ws ws' : List Cond} {rm : Room} {Pc : Array Value → State → Prop} {Qc : Array Value → State → Outcome → State → Prop} {XC : String → State → State → Prop} {mc ms : Nat} {free : Addr → Prop} {cc : ByteArray} {maxL : Nat} {ret : Option FieldType} {hh : List (Nat × Nat × Nat × Nat)}
    (hy : plainName y.cls = true) (hw : ws = Cond.codeWith y cc maxL ret hh :: ws')
    (body : ∀ p e s m args below meth c s₁, BodyLoose p l y (headSpec ws rm) cc maxL ret e s m args below meth c s₁ → c.maxLocals = maxL → Pc args s →
      W p l e (headSpec ws rm).room s m args below meth c s.heap [] 0 0 (vx_MQ below Qc XC args s mc ms free) (entryFrame m args maxL)) : vx_Met l y ws rm Pc Qc XC mc ms free := by
  refine MetFree.of_bodyS (code := cc) (maxLocals := maxL) (ret := ret) hy ?_ ?_
  · intro args s m h hn
    obtain ⟨m9, meth, c, hn9, h1, h2, h3, h4, -, h5, h6, -⟩ := Cond.codeWith_spec (atoms_spec (ws := ws) h _ (by rw [hw]; exact List.mem_cons_self))
    cases hn.symm.trans hn9
    exact ⟨meth, c, h1, h2, h3, h4, h5, h6⟩
  · intro p e s m args below meth c s₁ B hml hP _
    have hh0 : s₁.heap = s.heap := by rw [B.state]; rfl
    obtain ⟨t, a1, o, b1, b2, b3⟩ := body p e s m args below meth c s₁ B hml hP s₁ hh0 (Stand.of_body B)
    exact ⟨t, o, a1, b1, b2, b3⟩
/-! ===== END ===== -/
end
section
def RX0 : String := "Takinghall$Interest"
def TX0 : u_T := fun k => match k with
  | 0 => ("Takinghall$Interest", "number", "I", true)
  | 1 => ("Takinghall$Interest", "kind", "I", true)
  | 2 => ("Takinghall$Interest", "plot", "LTakinghall$Plot;", true)
  | 3 => ("Takinghall$Interest", "person", "I", true)
  | 4 => ("Takinghall$Interest", "since", "I", true)
  | 5 => ("Takinghall$Interest", "measure", "I", true)
  | 6 => ("Takinghall$Interest", "profit", "I", true)
  | 7 => ("Takinghall$Interest", "noticeDay", "I", false)
  | 8 => ("Takinghall$Interest", "hasObjected", "Z", false)
  | 9 => ("Takinghall$Interest", "isObjectionOpen", "Z", false)
  | 10 => ("Takinghall$Interest", "sum", "J", false)
  | 11 => ("Takinghall$Interest", "advanced", "J", false)
  | 12 => ("Takinghall$Interest", "advanceDay", "I", false)
  | 13 => ("Takinghall$Interest", "settled", "J", false)
  | _ => ("Takinghall$Interest", "isSettled", "Z", false)
def tyX0 : Nat → FieldType := fun k => match k with
  | 0 => .int
  | 1 => .int
  | 2 => .object "Takinghall$Plot"
  | 3 => .int
  | 4 => .int
  | 5 => .int
  | 6 => .int
  | 7 => .int
  | 8 => .boolean
  | 9 => .boolean
  | 10 => .long
  | 11 => .long
  | 12 => .int
  | 13 => .long
  | _ => .boolean
abbrev wsX00 : List Cond := u_ws RX0 TX0 15
theorem nmX0 : ∀ a, a < 15 → ∀ b, b < 15 → a ≠ b → (TX0 a).2.1 ≠ (TX0 b).2.1 := by decide +kernel
theorem tyX0_ok : ∀ k, k < 15 → parseFieldDescriptor (TX0 k).2.2.1 = some (tyX0 k) := by decide +kernel
abbrev cX0_init : ByteArray := prog_2_method_1_code
def yX0_init : MethodName := ⟨RX0, "<init>", "(IILTakinghall$Plot;IIII)V"⟩
def RX1 : String := "Takinghall$Plot"
def TX1 : u_T := fun k => match k with
  | 0 => ("Takinghall$Plot", "number", "I", true)
  | 1 => ("Takinghall$Plot", "area", "I", false)
  | 2 => ("Takinghall$Plot", "use", "I", false)
  | 3 => ("Takinghall$Plot", "state", "I", false)
  | 4 => ("Takinghall$Plot", "scheme", "LTakinghall$Scheme;", false)
  | 5 => ("Takinghall$Plot", "part", "I", false)
  | 6 => ("Takinghall$Plot", "valueDay", "I", false)
  | 7 => ("Takinghall$Plot", "valuePrice", "LTakinghall$Price;", false)
  | 8 => ("Takinghall$Plot", "hasWorks", "Z", false)
  | 9 => ("Takinghall$Plot", "offeredTo", "LTakinghall$Interest;", false)
  | _ => ("Takinghall$Plot", "offerPrice", "I", false)
def tyX1 : Nat → FieldType := fun k => match k with
  | 0 => .int
  | 1 => .int
  | 2 => .int
  | 3 => .int
  | 4 => .object "Takinghall$Scheme"
  | 5 => .int
  | 6 => .int
  | 7 => .object "Takinghall$Price"
  | 8 => .boolean
  | 9 => .object "Takinghall$Interest"
  | _ => .int
abbrev wsX10 : List Cond := u_ws RX1 TX1 11
theorem nmX1 : ∀ a, a < 11 → ∀ b, b < 11 → a ≠ b → (TX1 a).2.1 ≠ (TX1 b).2.1 := by decide +kernel
theorem tyX1_ok : ∀ k, k < 11 → parseFieldDescriptor (TX1 k).2.2.1 = some (tyX1 k) := by decide +kernel
abbrev cX1_init : ByteArray := prog_3_method_1_code
def yX1_init : MethodName := ⟨RX1, "<init>", "(I)V"⟩
def RX2 : String := "Takinghall$Price"
def TX2 : u_T := fun k => match k with
  | 0 => ("Takinghall$Price", "day", "I", true)
  | 1 => ("Takinghall$Price", "cents", "I", true)
  | _ => ("Takinghall$Price", "earlier", "LTakinghall$Price;", true)
def tyX2 : Nat → FieldType := fun k => match k with
  | 0 => .int
  | 1 => .int
  | _ => .object "Takinghall$Price"
abbrev wsX20 : List Cond := u_ws RX2 TX2 3
theorem nmX2 : ∀ a, a < 3 → ∀ b, b < 3 → a ≠ b → (TX2 a).2.1 ≠ (TX2 b).2.1 := by decide +kernel
theorem tyX2_ok : ∀ k, k < 3 → parseFieldDescriptor (TX2 k).2.2.1 = some (tyX2 k) := by decide +kernel
abbrev cX2_init : ByteArray := prog_4_method_1_code
def yX2_init : MethodName := ⟨RX2, "<init>", "(IILTakinghall$Price;)V"⟩
def RX3 : String := "Takinghall$Scheme"
def TX3 : u_T := fun k => match k with
  | 0 => ("Takinghall$Scheme", "number", "I", true)
  | 1 => ("Takinghall$Scheme", "harm", "I", true)
  | 2 => ("Takinghall$Scheme", "rise", "I", true)
  | 3 => ("Takinghall$Scheme", "state", "I", false)
  | 4 => ("Takinghall$Scheme", "confirmDay", "I", false)
  | _ => ("Takinghall$Scheme", "dropDay", "I", false)
def tyX3 : Nat → FieldType := fun k => match k with
  | 0 => .int
  | 1 => .int
  | 2 => .int
  | 3 => .int
  | 4 => .int
  | _ => .int
abbrev wsX30 : List Cond := u_ws RX3 TX3 6
theorem nmX3 : ∀ a, a < 6 → ∀ b, b < 6 → a ≠ b → (TX3 a).2.1 ≠ (TX3 b).2.1 := by decide +kernel
theorem tyX3_ok : ∀ k, k < 6 → parseFieldDescriptor (TX3 k).2.2.1 = some (tyX3 k) := by decide +kernel
abbrev cX3_init : ByteArray := prog_5_method_1_code
def yX3_init : MethodName := ⟨RX3, "<init>", "(III)V"⟩
def RX4 : String := "Takinghall"
def TX4 : u_T := fun k => match k with
  | 0 => ("Takinghall", "plots", "[LTakinghall$Plot;", true)
  | 1 => ("Takinghall", "latestPrices", "[LTakinghall$Price;", true)
  | 2 => ("Takinghall", "interests", "[LTakinghall$Interest;", true)
  | 3 => ("Takinghall", "interestCount", "I", false)
  | 4 => ("Takinghall", "schemes", "[LTakinghall$Scheme;", true)
  | 5 => ("Takinghall", "schemeCount", "I", false)
  | 6 => ("Takinghall", "now", "I", false)
  | 7 => ("Takinghall", "allSums", "J", false)
  | 8 => ("Takinghall", "allPaid", "J", false)
  | 9 => ("Takinghall", "inCourt", "J", false)
  | 10 => ("Takinghall", "paidForBack", "J", false)
  | _ => ("Takinghall", "allLand", "J", false)
def tyX4 : Nat → FieldType := fun k => match k with
  | 0 => .array (.object "Takinghall$Plot")
  | 1 => .array (.object "Takinghall$Price")
  | 2 => .array (.object "Takinghall$Interest")
  | 3 => .int
  | 4 => .array (.object "Takinghall$Scheme")
  | 5 => .int
  | 6 => .int
  | 7 => .long
  | 8 => .long
  | 9 => .long
  | 10 => .long
  | _ => .long
abbrev wsX40 : List Cond := u_ws RX4 TX4 12
theorem nmX4 : ∀ a, a < 12 → ∀ b, b < 12 → a ≠ b → (TX4 a).2.1 ≠ (TX4 b).2.1 := by decide +kernel
theorem tyX4_ok : ∀ k, k < 12 → parseFieldDescriptor (TX4 k).2.2.1 = some (tyX4 k) := by decide +kernel
abbrev cX4_init : ByteArray := prog_1_method_1_code
def yX4_init : MethodName := ⟨RX4, "<init>", "()V"⟩
abbrev cX4_plot : ByteArray := prog_1_method_2_code
def yX4_plot : MethodName := ⟨RX4, "plot", "(III)I"⟩
abbrev cX4_price : ByteArray := prog_1_method_3_code
def yX4_price : MethodName := ⟨RX4, "price", "(II)I"⟩
abbrev cX4_worth : ByteArray := prog_1_method_4_code
def yX4_worth : MethodName := ⟨RX4, "worth", "(II)I"⟩
abbrev cX4_market : ByteArray := prog_1_method_5_code
def yX4_market : MethodName := ⟨RX4, "market", "(I)I"⟩
abbrev cX4_plotOf : ByteArray := prog_1_method_6_code
def yX4_plotOf : MethodName := ⟨RX4, "plotOf", "(II)I"⟩
abbrev cX4_own : ByteArray := prog_1_method_7_code
def yX4_own : MethodName := ⟨RX4, "own", "(III)I"⟩
abbrev cX4_lease : ByteArray := prog_1_method_8_code
def yX4_lease : MethodName := ⟨RX4, "lease", "(IIII)I"⟩
abbrev cX4_charge : ByteArray := prog_1_method_9_code
def yX4_charge : MethodName := ⟨RX4, "charge", "(III)I"⟩
abbrev cX4_interestOf : ByteArray := prog_1_method_10_code
def yX4_interestOf : MethodName := ⟨RX4, "interestOf", "(II)J"⟩
abbrev cX4_scheme : ByteArray := prog_1_method_11_code
def yX4_scheme : MethodName := ⟨RX4, "scheme", "(II)I"⟩
abbrev cX4_draw : ByteArray := prog_1_method_12_code
def yX4_draw : MethodName := ⟨RX4, "draw", "(III)I"⟩
abbrev cX4_notice : ByteArray := prog_1_method_13_code
def yX4_notice : MethodName := ⟨RX4, "notice", "(I)I"⟩
abbrev cX4_object : ByteArray := prog_1_method_14_code
def yX4_object : MethodName := ⟨RX4, "object", "(I)I"⟩
abbrev cX4_hear : ByteArray := prog_1_method_15_code
def yX4_hear : MethodName := ⟨RX4, "hear", "(IZ)I"⟩
abbrev cX4_confirm : ByteArray := prog_1_method_16_code
def yX4_confirm : MethodName := ⟨RX4, "confirm", "(I)I"⟩
abbrev cX4_whoStops : ByteArray := prog_1_method_17_code
def yX4_whoStops : MethodName := ⟨RX4, "whoStops", "(I)I"⟩
abbrev cX4_drop : ByteArray := prog_1_method_18_code
def yX4_drop : MethodName := ⟨RX4, "drop", "(I)I"⟩
abbrev cX4_schemeOf : ByteArray := prog_1_method_19_code
def yX4_schemeOf : MethodName := ⟨RX4, "schemeOf", "(II)I"⟩
abbrev cX4_enter : ByteArray := prog_1_method_20_code
def yX4_enter : MethodName := ⟨RX4, "enter", "(I)I"⟩
abbrev cX4_blight : ByteArray := prog_1_method_21_code
def yX4_blight : MethodName := ⟨RX4, "blight", "(I)I"⟩
abbrev cX4_works : ByteArray := prog_1_method_22_code
def yX4_works : MethodName := ⟨RX4, "works", "(I)I"⟩
abbrev cX4_sumAnew : ByteArray := prog_1_method_23_code
def yX4_sumAnew : MethodName := ⟨RX4, "sumAnew", "(I)J"⟩
abbrev cX4_owed : ByteArray := prog_1_method_24_code
def yX4_owed : MethodName := ⟨RX4, "owed", "(I)J"⟩
abbrev cX4_advance : ByteArray := prog_1_method_25_code
def yX4_advance : MethodName := ⟨RX4, "advance", "(I)J"⟩
abbrev cX4_settle : ByteArray := prog_1_method_26_code
def yX4_settle : MethodName := ⟨RX4, "settle", "(I)J"⟩
abbrev cX4_refuse : ByteArray := prog_1_method_27_code
def yX4_refuse : MethodName := ⟨RX4, "refuse", "(I)I"⟩
abbrev cX4_accept : ByteArray := prog_1_method_28_code
def yX4_accept : MethodName := ⟨RX4, "accept", "(I)I"⟩
abbrev cX4_pass : ByteArray := prog_1_method_29_code
def yX4_pass : MethodName := ⟨RX4, "pass", "(I)I"⟩
abbrev cX4_today : ByteArray := prog_1_method_30_code
def yX4_today : MethodName := ⟨RX4, "today", "()I"⟩
abbrev cX4_total : ByteArray := prog_1_method_31_code
def yX4_total : MethodName := ⟨RX4, "total", "(I)J"⟩
abbrev cX4_creditors : ByteArray := prog_1_method_32_code
def yX4_creditors : MethodName := ⟨RX4, "creditors", "(I)I"⟩
abbrev cX4_isWithin : ByteArray := prog_1_method_33_code
def yX4_isWithin : MethodName := ⟨RX4, "isWithin", "(III)Z"⟩
abbrev cX4_isUse : ByteArray := prog_1_method_34_code
def yX4_isUse : MethodName := ⟨RX4, "isUse", "(I)Z"⟩
abbrev cX4_isPerson : ByteArray := prog_1_method_35_code
def yX4_isPerson : MethodName := ⟨RX4, "isPerson", "(I)Z"⟩
abbrev cX4_hundredths : ByteArray := prog_1_method_36_code
def yX4_hundredths : MethodName := ⟨RX4, "hundredths", "(II)I"⟩
abbrev cX4_plotAt : ByteArray := prog_1_method_37_code
def yX4_plotAt : MethodName := ⟨RX4, "plotAt", "(I)LTakinghall$Plot;"⟩
abbrev cX4_interestAt : ByteArray := prog_1_method_38_code
def yX4_interestAt : MethodName := ⟨RX4, "interestAt", "(I)LTakinghall$Interest;"⟩
abbrev cX4_schemeAt : ByteArray := prog_1_method_39_code
def yX4_schemeAt : MethodName := ⟨RX4, "schemeAt", "(I)LTakinghall$Scheme;"⟩
abbrev cX4_numberOf : ByteArray := prog_1_method_40_code
def yX4_numberOf : MethodName := ⟨RX4, "numberOf", "(LTakinghall$Plot;)I"⟩
abbrev cX4_numberOf_ : ByteArray := prog_1_method_41_code
def yX4_numberOf_ : MethodName := ⟨RX4, "numberOf", "(LTakinghall$Interest;)I"⟩
abbrev cX4_numberOf__ : ByteArray := prog_1_method_42_code
def yX4_numberOf__ : MethodName := ⟨RX4, "numberOf", "(LTakinghall$Scheme;)I"⟩
abbrev cX4_priceOn : ByteArray := prog_1_method_43_code
def yX4_priceOn : MethodName := ⟨RX4, "priceOn", "(II)LTakinghall$Price;"⟩
abbrev cX4_centsOf : ByteArray := prog_1_method_44_code
def yX4_centsOf : MethodName := ⟨RX4, "centsOf", "(LTakinghall$Price;)I"⟩
abbrev cX4_worthBy : ByteArray := prog_1_method_45_code
def yX4_worthBy : MethodName := ⟨RX4, "worthBy", "(LTakinghall$Plot;LTakinghall$Price;)I"⟩
abbrev cX4_worthToday : ByteArray := prog_1_method_46_code
def yX4_worthToday : MethodName := ⟨RX4, "worthToday", "(LTakinghall$Plot;)I"⟩
abbrev cX4_isBesideNeeded : ByteArray := prog_1_method_47_code
def yX4_isBesideNeeded : MethodName := ⟨RX4, "isBesideNeeded", "(I)Z"⟩
abbrev cX4_neederOf : ByteArray := prog_1_method_48_code
def yX4_neederOf : MethodName := ⟨RX4, "neederOf", "(LTakinghall$Plot;)LTakinghall$Scheme;"⟩
abbrev cX4_isNeeded : ByteArray := prog_1_method_49_code
def yX4_isNeeded : MethodName := ⟨RX4, "isNeeded", "(LTakinghall$Plot;)Z"⟩
abbrev cX4_isNeededBy : ByteArray := prog_1_method_50_code
def yX4_isNeededBy : MethodName := ⟨RX4, "isNeededBy", "(LTakinghall$Plot;LTakinghall$Scheme;)Z"⟩
abbrev cX4_isFreeAndNeededBy : ByteArray := prog_1_method_51_code
def yX4_isFreeAndNeededBy : MethodName := ⟨RX4, "isFreeAndNeededBy", "(LTakinghall$Plot;LTakinghall$Scheme;)Z"⟩
abbrev cX4_draftOfFreePlot : ByteArray := prog_1_method_52_code
def yX4_draftOfFreePlot : MethodName := ⟨RX4, "draftOfFreePlot", "(LTakinghall$Plot;)LTakinghall$Scheme;"⟩
abbrev cX4_countNeeded : ByteArray := prog_1_method_53_code
def yX4_countNeeded : MethodName := ⟨RX4, "countNeeded", "(LTakinghall$Scheme;)I"⟩
abbrev cX4_countFreeNeeded : ByteArray := prog_1_method_54_code
def yX4_countFreeNeeded : MethodName := ⟨RX4, "countFreeNeeded", "(LTakinghall$Scheme;)I"⟩
abbrev cX4_countWorks : ByteArray := prog_1_method_55_code
def yX4_countWorks : MethodName := ⟨RX4, "countWorks", "()I"⟩
abbrev cX4_countOpenObjections : ByteArray := prog_1_method_56_code
def yX4_countOpenObjections : MethodName := ⟨RX4, "countOpenObjections", "(LTakinghall$Scheme;)I"⟩
abbrev cX4_lowestThatStops : ByteArray := prog_1_method_57_code
def yX4_lowestThatStops : MethodName := ⟨RX4, "lowestThatStops", "(LTakinghall$Scheme;)LTakinghall$Interest;"⟩
abbrev cX4_stops : ByteArray := prog_1_method_58_code
def yX4_stops : MethodName := ⟨RX4, "stops", "(LTakinghall$Interest;)Z"⟩
abbrev cX4_release : ByteArray := prog_1_method_59_code
def yX4_release : MethodName := ⟨RX4, "release", "(LTakinghall$Plot;)V"⟩
abbrev cX4_letGo : ByteArray := prog_1_method_60_code
def yX4_letGo : MethodName := ⟨RX4, "letGo", "(LTakinghall$Plot;)Z"⟩
abbrev cX4_canTellInterest : ByteArray := prog_1_method_61_code
def yX4_canTellInterest : MethodName := ⟨RX4, "canTellInterest", "(LTakinghall$Plot;)Z"⟩
abbrev cX4_tellInterest : ByteArray := prog_1_method_62_code
def yX4_tellInterest : MethodName := ⟨RX4, "tellInterest", "(ILTakinghall$Plot;III)I"⟩
abbrev cX4_sharesOf : ByteArray := prog_1_method_63_code
def yX4_sharesOf : MethodName := ⟨RX4, "sharesOf", "(LTakinghall$Plot;)I"⟩
abbrev cX4_isOver : ByteArray := prog_1_method_64_code
def yX4_isOver : MethodName := ⟨RX4, "isOver", "(LTakinghall$Interest;I)Z"⟩
abbrev cX4_wasTaken : ByteArray := prog_1_method_65_code
def yX4_wasTaken : MethodName := ⟨RX4, "wasTaken", "(LTakinghall$Plot;)Z"⟩
abbrev cX4_take : ByteArray := prog_1_method_66_code
def yX4_take : MethodName := ⟨RX4, "take", "(LTakinghall$Plot;)I"⟩
abbrev cX4_landOf : ByteArray := prog_1_method_67_code
def yX4_landOf : MethodName := ⟨RX4, "landOf", "(LTakinghall$Plot;)I"⟩
abbrev cX4_sumBy : ByteArray := prog_1_method_68_code
def yX4_sumBy : MethodName := ⟨RX4, "sumBy", "(LTakinghall$Interest;I)J"⟩
abbrev cX4_ownerSum : ByteArray := prog_1_method_69_code
def yX4_ownerSum : MethodName := ⟨RX4, "ownerSum", "(LTakinghall$Interest;LTakinghall$Plot;I)I"⟩
abbrev cX4_leaseSum : ByteArray := prog_1_method_70_code
def yX4_leaseSum : MethodName := ⟨RX4, "leaseSum", "(LTakinghall$Interest;LTakinghall$Plot;)I"⟩
abbrev cX4_leftBehindCharges : ByteArray := prog_1_method_71_code
def yX4_leftBehindCharges : MethodName := ⟨RX4, "leftBehindCharges", "(LTakinghall$Plot;II)I"⟩
abbrev cX4_leftForCourt : ByteArray := prog_1_method_72_code
def yX4_leftForCourt : MethodName := ⟨RX4, "leftForCourt", "(LTakinghall$Plot;I)I"⟩
abbrev cX4_owedTo : ByteArray := prog_1_method_73_code
def yX4_owedTo : MethodName := ⟨RX4, "owedTo", "(LTakinghall$Interest;)J"⟩
abbrev cX4_gainOf : ByteArray := prog_1_method_74_code
def yX4_gainOf : MethodName := ⟨RX4, "gainOf", "(LTakinghall$Interest;)J"⟩
abbrev cX4_gainOfRow : ByteArray := prog_1_method_75_code
def yX4_gainOfRow : MethodName := ⟨RX4, "gainOfRow", "(JJ)J"⟩
abbrev cX4_offer : ByteArray := prog_1_method_76_code
def yX4_offer : MethodName := ⟨RX4, "offer", "(LTakinghall$Plot;LTakinghall$Interest;I)V"⟩
abbrev cX4_ownerBehind : ByteArray := prog_1_method_77_code
def yX4_ownerBehind : MethodName := ⟨RX4, "ownerBehind", "(LTakinghall$Plot;LTakinghall$Interest;)LTakinghall$Interest;"⟩
abbrev cX4_comesBehind : ByteArray := prog_1_method_78_code
def yX4_comesBehind : MethodName := ⟨RX4, "comesBehind", "(LTakinghall$Interest;LTakinghall$Interest;)Z"⟩
def RX5 : String := "TakinghallModel"
def TX5 : u_T := fun k => match k with
  | 0 => ("TakinghallModel", "thrown", "I", false)
  | 1 => ("TakinghallModel", "today", "I", false)
  | 2 => ("TakinghallModel", "prices", "[I", true)
  | 3 => ("TakinghallModel", "areas", "[I", true)
  | 4 => ("TakinghallModel", "uses", "[I", true)
  | 5 => ("TakinghallModel", "states", "[I", true)
  | 6 => ("TakinghallModel", "needers", "[I", true)
  | 7 => ("TakinghallModel", "parts", "[I", true)
  | 8 => ("TakinghallModel", "valueDays", "[I", true)
  | 9 => ("TakinghallModel", "hasWorks", "[Z", true)
  | 10 => ("TakinghallModel", "offers", "[I", true)
  | 11 => ("TakinghallModel", "offerPrices", "[I", true)
  | 12 => ("TakinghallModel", "lands", "[J", true)
  | 13 => ("TakinghallModel", "many", "I", false)
  | 14 => ("TakinghallModel", "kinds", "[I", true)
  | 15 => ("TakinghallModel", "plots", "[I", true)
  | 16 => ("TakinghallModel", "persons", "[I", true)
  | 17 => ("TakinghallModel", "since", "[I", true)
  | 18 => ("TakinghallModel", "numbers", "[I", true)
  | 19 => ("TakinghallModel", "notices", "[I", true)
  | 20 => ("TakinghallModel", "objections", "[I", true)
  | 21 => ("TakinghallModel", "sums", "[J", true)
  | 22 => ("TakinghallModel", "paid", "[J", true)
  | 23 => ("TakinghallModel", "advances", "[J", true)
  | 24 => ("TakinghallModel", "advanceDays", "[I", true)
  | 25 => ("TakinghallModel", "isSettled", "[Z", true)
  | 26 => ("TakinghallModel", "schemeMany", "I", false)
  | 27 => ("TakinghallModel", "harms", "[I", true)
  | 28 => ("TakinghallModel", "rises", "[I", true)
  | 29 => ("TakinghallModel", "stages", "[I", true)
  | 30 => ("TakinghallModel", "confirmDays", "[I", true)
  | 31 => ("TakinghallModel", "dropDays", "[I", true)
  | 32 => ("TakinghallModel", "court", "J", false)
  | 33 => ("TakinghallModel", "forBack", "J", false)
  | _ => ("TakinghallModel", "profits", "[I", true)
def tyX5 : Nat → FieldType := fun k => match k with
  | 0 => .int
  | 1 => .int
  | 2 => .array .int
  | 3 => .array .int
  | 4 => .array .int
  | 5 => .array .int
  | 6 => .array .int
  | 7 => .array .int
  | 8 => .array .int
  | 9 => .array .boolean
  | 10 => .array .int
  | 11 => .array .int
  | 12 => .array .long
  | 13 => .int
  | 14 => .array .int
  | 15 => .array .int
  | 16 => .array .int
  | 17 => .array .int
  | 18 => .array .int
  | 19 => .array .int
  | 20 => .array .int
  | 21 => .array .long
  | 22 => .array .long
  | 23 => .array .long
  | 24 => .array .int
  | 25 => .array .boolean
  | 26 => .int
  | 27 => .array .int
  | 28 => .array .int
  | 29 => .array .int
  | 30 => .array .int
  | 31 => .array .int
  | 32 => .long
  | 33 => .long
  | _ => .array .int
abbrev wsX50 : List Cond := u_ws RX5 TX5 35
theorem nmX5 : ∀ a, a < 35 → ∀ b, b < 35 → a ≠ b → (TX5 a).2.1 ≠ (TX5 b).2.1 := by decide +kernel
theorem tyX5_ok : ∀ k, k < 35 → parseFieldDescriptor (TX5 k).2.2.1 = some (tyX5 k) := by decide +kernel
abbrev cX5_init : ByteArray := prog_7_method_1_code
def yX5_init : MethodName := ⟨RX5, "<init>", "()V"⟩
abbrev cX5_thrown : ByteArray := prog_7_method_2_code
def yX5_thrown : MethodName := ⟨RX5, "thrown", "()I"⟩
abbrev cX5_between : ByteArray := prog_7_method_3_code
def yX5_between : MethodName := ⟨RX5, "between", "(III)Z"⟩
abbrev cX5_isPlot : ByteArray := prog_7_method_4_code
def yX5_isPlot : MethodName := ⟨RX5, "isPlot", "(I)Z"⟩
abbrev cX5_isUse : ByteArray := prog_7_method_5_code
def yX5_isUse : MethodName := ⟨RX5, "isUse", "(I)Z"⟩
abbrev cX5_isInterest : ByteArray := prog_7_method_6_code
def yX5_isInterest : MethodName := ⟨RX5, "isInterest", "(I)Z"⟩
abbrev cX5_isScheme : ByteArray := prog_7_method_7_code
def yX5_isScheme : MethodName := ⟨RX5, "isScheme", "(I)Z"⟩
abbrev cX5_plot : ByteArray := prog_7_method_8_code
def yX5_plot : MethodName := ⟨RX5, "plot", "(III)I"⟩
abbrev cX5_price : ByteArray := prog_7_method_9_code
def yX5_price : MethodName := ⟨RX5, "price", "(II)I"⟩
abbrev cX5_worthOn : ByteArray := prog_7_method_10_code
def yX5_worthOn : MethodName := ⟨RX5, "worthOn", "(II)I"⟩
abbrev cX5_worth : ByteArray := prog_7_method_11_code
def yX5_worth : MethodName := ⟨RX5, "worth", "(II)I"⟩
abbrev cX5_isNeededBeside : ByteArray := prog_7_method_12_code
def yX5_isNeededBeside : MethodName := ⟨RX5, "isNeededBeside", "(I)Z"⟩
abbrev cX5_market : ByteArray := prog_7_method_13_code
def yX5_market : MethodName := ⟨RX5, "market", "(I)I"⟩
abbrev cX5_plotOf : ByteArray := prog_7_method_14_code
def yX5_plotOf : MethodName := ⟨RX5, "plotOf", "(II)I"⟩
abbrev cX5_tell : ByteArray := prog_7_method_15_code
def yX5_tell : MethodName := ⟨RX5, "tell", "(IIIIZ)I"⟩
abbrev cX5_own : ByteArray := prog_7_method_16_code
def yX5_own : MethodName := ⟨RX5, "own", "(III)I"⟩
abbrev cX5_lease : ByteArray := prog_7_method_17_code
def yX5_lease : MethodName := ⟨RX5, "lease", "(IIII)I"⟩
abbrev cX5_charge : ByteArray := prog_7_method_18_code
def yX5_charge : MethodName := ⟨RX5, "charge", "(III)I"⟩
abbrev cX5_interestOf : ByteArray := prog_7_method_19_code
def yX5_interestOf : MethodName := ⟨RX5, "interestOf", "(II)J"⟩
abbrev cX5_scheme : ByteArray := prog_7_method_20_code
def yX5_scheme : MethodName := ⟨RX5, "scheme", "(II)I"⟩
abbrev cX5_neededBy : ByteArray := prog_7_method_21_code
def yX5_neededBy : MethodName := ⟨RX5, "neededBy", "(IZ)I"⟩
abbrev cX5_draw : ByteArray := prog_7_method_22_code
def yX5_draw : MethodName := ⟨RX5, "draw", "(III)I"⟩
abbrev cX5_isDrafted : ByteArray := prog_7_method_23_code
def yX5_isDrafted : MethodName := ⟨RX5, "isDrafted", "(I)Z"⟩
abbrev cX5_notice : ByteArray := prog_7_method_24_code
def yX5_notice : MethodName := ⟨RX5, "notice", "(I)I"⟩
abbrev cX5_openOf : ByteArray := prog_7_method_25_code
def yX5_openOf : MethodName := ⟨RX5, "openOf", "(I)I"⟩
abbrev cX5_object : ByteArray := prog_7_method_26_code
def yX5_object : MethodName := ⟨RX5, "object", "(I)I"⟩
abbrev cX5_letGo : ByteArray := prog_7_method_27_code
def yX5_letGo : MethodName := ⟨RX5, "letGo", "(I)V"⟩
abbrev cX5_hear : ByteArray := prog_7_method_28_code
def yX5_hear : MethodName := ⟨RX5, "hear", "(IZ)I"⟩
abbrev cX5_stopper : ByteArray := prog_7_method_29_code
def yX5_stopper : MethodName := ⟨RX5, "stopper", "(I)I"⟩
abbrev cX5_confirm : ByteArray := prog_7_method_30_code
def yX5_confirm : MethodName := ⟨RX5, "confirm", "(I)I"⟩
abbrev cX5_whoStops : ByteArray := prog_7_method_31_code
def yX5_whoStops : MethodName := ⟨RX5, "whoStops", "(I)I"⟩
abbrev cX5_ownerBehind : ByteArray := prog_7_method_32_code
def yX5_ownerBehind : MethodName := ⟨RX5, "ownerBehind", "(II)I"⟩
abbrev cX5_drop : ByteArray := prog_7_method_33_code
def yX5_drop : MethodName := ⟨RX5, "drop", "(I)I"⟩
abbrev cX5_schemeOf : ByteArray := prog_7_method_34_code
def yX5_schemeOf : MethodName := ⟨RX5, "schemeOf", "(II)I"⟩
abbrev cX5_landOf : ByteArray := prog_7_method_35_code
def yX5_landOf : MethodName := ⟨RX5, "landOf", "(II)I"⟩
abbrev cX5_leftAhead : ByteArray := prog_7_method_36_code
def yX5_leftAhead : MethodName := ⟨RX5, "leftAhead", "(II)J"⟩
abbrev cX5_byShare : ByteArray := prog_7_method_37_code
def yX5_byShare : MethodName := ⟨RX5, "byShare", "(I)J"⟩
abbrev cX5_sumOf : ByteArray := prog_7_method_38_code
def yX5_sumOf : MethodName := ⟨RX5, "sumOf", "(I)J"⟩
abbrev cX5_take : ByteArray := prog_7_method_39_code
def yX5_take : MethodName := ⟨RX5, "take", "(I)I"⟩
abbrev cX5_enter : ByteArray := prog_7_method_40_code
def yX5_enter : MethodName := ⟨RX5, "enter", "(I)I"⟩
abbrev cX5_blight : ByteArray := prog_7_method_41_code
def yX5_blight : MethodName := ⟨RX5, "blight", "(I)I"⟩
abbrev cX5_works : ByteArray := prog_7_method_42_code
def yX5_works : MethodName := ⟨RX5, "works", "(I)I"⟩
abbrev cX5_wasTaken : ByteArray := prog_7_method_43_code
def yX5_wasTaken : MethodName := ⟨RX5, "wasTaken", "(I)Z"⟩
abbrev cX5_sumAnew : ByteArray := prog_7_method_44_code
def yX5_sumAnew : MethodName := ⟨RX5, "sumAnew", "(I)J"⟩
abbrev cX5_gain : ByteArray := prog_7_method_45_code
def yX5_gain : MethodName := ⟨RX5, "gain", "(JI)J"⟩
abbrev cX5_owedTo : ByteArray := prog_7_method_46_code
def yX5_owedTo : MethodName := ⟨RX5, "owedTo", "(I)J"⟩
abbrev cX5_owed : ByteArray := prog_7_method_47_code
def yX5_owed : MethodName := ⟨RX5, "owed", "(I)J"⟩
abbrev cX5_advance : ByteArray := prog_7_method_48_code
def yX5_advance : MethodName := ⟨RX5, "advance", "(I)J"⟩
abbrev cX5_settle : ByteArray := prog_7_method_49_code
def yX5_settle : MethodName := ⟨RX5, "settle", "(I)J"⟩
abbrev cX5_refuse : ByteArray := prog_7_method_50_code
def yX5_refuse : MethodName := ⟨RX5, "refuse", "(I)I"⟩
abbrev cX5_accept : ByteArray := prog_7_method_51_code
def yX5_accept : MethodName := ⟨RX5, "accept", "(I)I"⟩
abbrev cX5_pass : ByteArray := prog_7_method_52_code
def yX5_pass : MethodName := ⟨RX5, "pass", "(I)I"⟩
abbrev cX5_today : ByteArray := prog_7_method_53_code
def yX5_today : MethodName := ⟨RX5, "today", "()I"⟩
abbrev cX5_total : ByteArray := prog_7_method_54_code
def yX5_total : MethodName := ⟨RX5, "total", "(I)J"⟩
abbrev cX5_creditors : ByteArray := prog_7_method_55_code
def yX5_creditors : MethodName := ⟨RX5, "creditors", "(I)I"⟩
def RJ9 : String := "java/lang/Math"
def TJ9 : u_T := fun k => match k with
  | _ => ("", "", "", false)
def tyJ9 : Nat → FieldType := fun k => match k with
  | _ => .int
abbrev wsJ90 : List Cond := u_ws RJ9 TJ9 0
theorem nmJ9 : ∀ a, a < 0 → ∀ b, b < 0 → a ≠ b → (TJ9 a).2.1 ≠ (TJ9 b).2.1 := by decide +kernel
theorem tyJ9_ok : ∀ k, k < 0 → parseFieldDescriptor (TJ9 k).2.2.1 = some (tyJ9 k) := by decide +kernel
abbrev cJ9_max_7cf53 : ByteArray := prog_12_method_65_code
def yJ9_max_7cf53 : MethodName := ⟨RJ9, "max", "(II)I"⟩
abbrev cJ9_min_7cf53 : ByteArray := prog_12_method_69_code
def yJ9_min_7cf53 : MethodName := ⟨RJ9, "min", "(II)I"⟩
def RJ0 : String := "java/lang/String"
def TJ0 : u_T := fun k => match k with
  | _ => ("", "", "", false)
def tyJ0 : Nat → FieldType := fun k => match k with
  | _ => .int
abbrev wsJ00 : List Cond := u_ws RJ0 TJ0 0
theorem nmJ0 : ∀ a, a < 0 → ∀ b, b < 0 → a ≠ b → (TJ0 a).2.1 ≠ (TJ0 b).2.1 := by decide +kernel
theorem tyJ0_ok : ∀ k, k < 0 → parseFieldDescriptor (TJ0 k).2.2.1 = some (tyJ0 k) := by decide +kernel
def RL : String := "TakinghallLaw"
abbrev cL_plot : ByteArray := method_3_code
def yL_plot : MethodName := ⟨RL, "plot", "(LTakinghall;III[J)I"⟩
abbrev cL_price : ByteArray := method_4_code
def yL_price : MethodName := ⟨RL, "price", "(LTakinghall;II[J)I"⟩
abbrev cL_worth : ByteArray := method_5_code
def yL_worth : MethodName := ⟨RL, "worth", "(LTakinghall;II[J)I"⟩
abbrev cL_market : ByteArray := method_6_code
def yL_market : MethodName := ⟨RL, "market", "(LTakinghall;I[J)I"⟩
abbrev cL_plotOf : ByteArray := method_7_code
def yL_plotOf : MethodName := ⟨RL, "plotOf", "(LTakinghall;II[J)I"⟩
abbrev cL_own : ByteArray := method_8_code
def yL_own : MethodName := ⟨RL, "own", "(LTakinghall;III[J)I"⟩
abbrev cL_lease : ByteArray := method_9_code
def yL_lease : MethodName := ⟨RL, "lease", "(LTakinghall;IIII[J)I"⟩
abbrev cL_charge : ByteArray := method_10_code
def yL_charge : MethodName := ⟨RL, "charge", "(LTakinghall;III[J)I"⟩
abbrev cL_interestOf : ByteArray := method_11_code
def yL_interestOf : MethodName := ⟨RL, "interestOf", "(LTakinghall;II[J)I"⟩
abbrev cL_scheme : ByteArray := method_12_code
def yL_scheme : MethodName := ⟨RL, "scheme", "(LTakinghall;II[J)I"⟩
abbrev cL_draw : ByteArray := method_13_code
def yL_draw : MethodName := ⟨RL, "draw", "(LTakinghall;III[J)I"⟩
abbrev cL_notice : ByteArray := method_14_code
def yL_notice : MethodName := ⟨RL, "notice", "(LTakinghall;I[J)I"⟩
abbrev cL_object : ByteArray := method_15_code
def yL_object : MethodName := ⟨RL, "object", "(LTakinghall;I[J)I"⟩
abbrev cL_hear : ByteArray := method_16_code
def yL_hear : MethodName := ⟨RL, "hear", "(LTakinghall;IZ[J)I"⟩
abbrev cL_confirm : ByteArray := method_17_code
def yL_confirm : MethodName := ⟨RL, "confirm", "(LTakinghall;I[J)I"⟩
abbrev cL_whoStops : ByteArray := method_18_code
def yL_whoStops : MethodName := ⟨RL, "whoStops", "(LTakinghall;I[J)I"⟩
abbrev cL_drop : ByteArray := method_19_code
def yL_drop : MethodName := ⟨RL, "drop", "(LTakinghall;I[J)I"⟩
abbrev cL_schemeOf : ByteArray := method_20_code
def yL_schemeOf : MethodName := ⟨RL, "schemeOf", "(LTakinghall;II[J)I"⟩
abbrev cL_enter : ByteArray := method_21_code
def yL_enter : MethodName := ⟨RL, "enter", "(LTakinghall;I[J)I"⟩
abbrev cL_blight : ByteArray := method_22_code
def yL_blight : MethodName := ⟨RL, "blight", "(LTakinghall;I[J)I"⟩
abbrev cL_works : ByteArray := method_23_code
def yL_works : MethodName := ⟨RL, "works", "(LTakinghall;I[J)I"⟩
abbrev cL_sumAnew : ByteArray := method_24_code
def yL_sumAnew : MethodName := ⟨RL, "sumAnew", "(LTakinghall;I[J)I"⟩
abbrev cL_owed : ByteArray := method_25_code
def yL_owed : MethodName := ⟨RL, "owed", "(LTakinghall;I[J)I"⟩
abbrev cL_advance : ByteArray := method_26_code
def yL_advance : MethodName := ⟨RL, "advance", "(LTakinghall;I[J)I"⟩
abbrev cL_settle : ByteArray := method_27_code
def yL_settle : MethodName := ⟨RL, "settle", "(LTakinghall;I[J)I"⟩
abbrev cL_refuse : ByteArray := method_28_code
def yL_refuse : MethodName := ⟨RL, "refuse", "(LTakinghall;I[J)I"⟩
abbrev cL_accept : ByteArray := method_29_code
def yL_accept : MethodName := ⟨RL, "accept", "(LTakinghall;I[J)I"⟩
abbrev cL_pass : ByteArray := method_30_code
def yL_pass : MethodName := ⟨RL, "pass", "(LTakinghall;I[J)I"⟩
abbrev cL_total : ByteArray := method_31_code
def yL_total : MethodName := ⟨RL, "total", "(LTakinghall;I[J)I"⟩
abbrev cL_creditors : ByteArray := method_32_code
def yL_creditors : MethodName := ⟨RL, "creditors", "(LTakinghall;I[J)I"⟩
abbrev cL_law : ByteArray := code
def yL_law : MethodName := ⟨RL, "law", "([I)Z"⟩
abbrev vwCl : List vw_C := [(RX0, TX0, 15), (RX1, TX1, 11), (RX2, TX2, 3), (RX3, TX3, 6), (RX4, TX4, 12), (RX5, TX5, 35)]
/-- the good words of the tables -/
def wG : List Cond := lw_tbl.filter goodWord
theorem wG_tbl {w : Cond} (h : w ∈ wG) : w ∈ lw_tbl := (List.mem_filter.mp h).1
theorem wG_good {w : Cond} (h : w ∈ wG) : (w.onTables && w.keeps) = true ∨ ∃ ty, w = .arrayClass ty := good_of_word (List.mem_filter.mp h).2
theorem gV {x cd : Cond} {own C : String} {i : Nat} {y : MethodName} (h1 : Cond.methodLink own i y ∈ wG) (h2 : Cond.instanceMethod y ∈ wG) (h3 : Cond.selects C y y ∈ wG) (h4 : Cond.initialized C ∈ wG) (h5 : cd ∈ wG) : GoodIn (x :: wG) (wsV own i C y (cd :: wG)) := by
  have h : ∀ w ∈ wG, w ∈ x :: wG ∧ ((w.onTables && w.keeps) = true ∨ ∃ ty, w = .arrayClass ty) := fun w h => ⟨List.mem_cons_of_mem _ h, wG_good h⟩
  intro w hw
  unfold wsV at hw
  rcases List.mem_append.mp hw with hw | hw
  · simp only [List.mem_cons, List.not_mem_nil, or_false] at hw
    rcases hw with e | e | e | e <;> subst e
    · exact h _ h1
    · exact h _ h2
    · exact h _ h3
    · exact h _ h4
  · rcases List.mem_cons.mp hw with e | e
    · subst e; exact h _ h5
    · exact h _ e
theorem gS {x cd : Cond} {own : String} {i : Nat} {y : MethodName} (h1 : Cond.methodLink own i y ∈ wG) (h2 : Cond.static y ∈ wG) (h4 : Cond.initialized y.cls ∈ wG) (h5 : cd ∈ wG) : GoodIn (x :: wG) (va_wsS own i y (cd :: wG)) := by
  have h : ∀ w ∈ wG, w ∈ x :: wG ∧ ((w.onTables && w.keeps) = true ∨ ∃ ty, w = .arrayClass ty) := fun w h => ⟨List.mem_cons_of_mem _ h, wG_good h⟩
  intro w hw
  unfold va_wsS at hw
  rcases List.mem_append.mp hw with hw | hw
  · simp only [List.mem_cons, List.not_mem_nil, or_false] at hw
    rcases hw with e | e | e <;> subst e
    · exact h _ h1
    · exact h _ h2
    · exact h _ h4
  · rcases List.mem_cons.mp hw with e | e
    · subst e; exact h _ h5
    · exact h _ e
theorem gI {x cd : Cond} (h5 : cd ∈ wG) : GoodIn (x :: wG) (cd :: wG) := by
  intro w hw
  rcases List.mem_cons.mp hw with e | e
  · subst e; exact ⟨List.mem_cons_of_mem _ h5, wG_good h5⟩
  · exact ⟨List.mem_cons_of_mem _ e, wG_good e⟩
end
section
theorem kw_0 : (Jvm.Cond.initialized "TakinghallLaw") ∈ wG := List.mem_filter.mpr ⟨List.mem_append_right _ (List.mem_of_getElem? (i := 0) (by decide +kernel)), by decide +kernel⟩
theorem kw_1 : (Jvm.Cond.initialized "Takinghall") ∈ wG := List.mem_filter.mpr ⟨List.mem_append_right _ (List.mem_of_getElem? (i := 1) (by decide +kernel)), by decide +kernel⟩
theorem kw_2 : (Jvm.Cond.initialized "Takinghall$Plot") ∈ wG := List.mem_filter.mpr ⟨List.mem_append_right _ (List.mem_of_getElem? (i := 2) (by decide +kernel)), by decide +kernel⟩
theorem kw_3 : (Jvm.Cond.initialized "Takinghall$Price") ∈ wG := List.mem_filter.mpr ⟨List.mem_append_right _ (List.mem_of_getElem? (i := 3) (by decide +kernel)), by decide +kernel⟩
theorem kw_4 : (Jvm.Cond.initialized "TakinghallModel") ∈ wG := List.mem_filter.mpr ⟨List.mem_append_right _ (List.mem_of_getElem? (i := 4) (by decide +kernel)), by decide +kernel⟩
theorem kw_5 : (Jvm.Cond.initialized "java/lang/Throwable") ∈ wG := List.mem_filter.mpr ⟨List.mem_append_right _ (List.mem_of_getElem? (i := 5) (by decide +kernel)), by decide +kernel⟩
theorem kw_6 : (Jvm.Cond.initialized "java/lang/Exception") ∈ wG := List.mem_filter.mpr ⟨List.mem_append_right _ (List.mem_of_getElem? (i := 6) (by decide +kernel)), by decide +kernel⟩
theorem kw_7 : (Jvm.Cond.initialized "java/lang/RuntimeException") ∈ wG := List.mem_filter.mpr ⟨List.mem_append_right _ (List.mem_of_getElem? (i := 7) (by decide +kernel)), by decide +kernel⟩
theorem kw_8 : (Jvm.Cond.initialized "java/lang/IndexOutOfBoundsException") ∈ wG := List.mem_filter.mpr ⟨List.mem_append_right _ (List.mem_of_getElem? (i := 8) (by decide +kernel)), by decide +kernel⟩
theorem kw_9 : (Jvm.Cond.initialized "java/lang/IllegalArgumentException") ∈ wG := List.mem_filter.mpr ⟨List.mem_append_right _ (List.mem_of_getElem? (i := 9) (by decide +kernel)), by decide +kernel⟩
theorem kw_10 : (Jvm.Cond.initialized "java/lang/IllegalStateException") ∈ wG := List.mem_filter.mpr ⟨List.mem_append_right _ (List.mem_of_getElem? (i := 10) (by decide +kernel)), by decide +kernel⟩
theorem kw_11 : (Jvm.Cond.initialized "Takinghall$Interest") ∈ wG := List.mem_filter.mpr ⟨List.mem_append_right _ (List.mem_of_getElem? (i := 11) (by decide +kernel)), by decide +kernel⟩
theorem kw_12 : (Jvm.Cond.initialized "Takinghall$Scheme") ∈ wG := List.mem_filter.mpr ⟨List.mem_append_right _ (List.mem_of_getElem? (i := 12) (by decide +kernel)), by decide +kernel⟩
theorem kw_13 : (Jvm.Cond.initialized "java/lang/Math") ∈ wG := List.mem_filter.mpr ⟨List.mem_append_right _ (List.mem_of_getElem? (i := 13) (by decide +kernel)), by decide +kernel⟩
theorem kw_14 : (Jvm.Cond.classLink "TakinghallLaw" (8 : Nat) "Takinghall") ∈ wG := List.mem_filter.mpr ⟨List.mem_append_right _ (List.mem_of_getElem? (i := 14) (by decide +kernel)), by decide +kernel⟩
theorem kw_15 : (Jvm.Cond.instantiable "Takinghall" (12 : Nat)) ∈ wG := List.mem_filter.mpr ⟨List.mem_append_right _ (List.mem_of_getElem? (i := 15) (by decide +kernel)), by decide +kernel⟩
theorem kw_16 : (Jvm.Cond.methodLink "TakinghallLaw" (112 : Nat) ({ cls := "Takinghall", name := "<init>", desc := "()V" } : Jvm.MethodName)) ∈ wG := List.mem_filter.mpr ⟨List.mem_append_right _ (List.mem_of_getElem? (i := 16) (by decide +kernel)), by decide +kernel⟩
theorem kw_17 : (Jvm.Cond.instanceMethod ({ cls := "Takinghall", name := "<init>", desc := "()V" } : Jvm.MethodName)) ∈ wG := List.mem_filter.mpr ⟨List.mem_append_right _ (List.mem_of_getElem? (i := 17) (by decide +kernel)), by decide +kernel⟩
theorem kw_18 : (Jvm.Cond.code ({ cls := "Takinghall", name := "<init>", desc := "()V" } : Jvm.MethodName) prog_1_method_1_code (2 : Nat) (Option.none : Option Jvm.ClassFile.FieldType)) ∈ wG := List.mem_filter.mpr ⟨List.mem_append_right _ (List.mem_of_getElem? (i := 18) (by decide +kernel)), by decide +kernel⟩
theorem kw_19 : (Jvm.Cond.methodLink "Takinghall" (1 : Nat) ({ cls := "java/lang/Object", name := "<init>", desc := "()V" } : Jvm.MethodName)) ∈ wG := List.mem_filter.mpr ⟨List.mem_append_right _ (List.mem_of_getElem? (i := 19) (by decide +kernel)), by decide +kernel⟩
theorem kw_20 : (Jvm.Cond.instanceMethod ({ cls := "java/lang/Object", name := "<init>", desc := "()V" } : Jvm.MethodName)) ∈ wG := List.mem_filter.mpr ⟨List.mem_append_right _ (List.mem_of_getElem? (i := 20) (by decide +kernel)), by decide +kernel⟩
theorem kw_21 : (Jvm.Cond.code ({ cls := "java/lang/Object", name := "<init>", desc := "()V" } : Jvm.MethodName) object_method_1_code (1 : Nat) (Option.none : Option Jvm.ClassFile.FieldType)) ∈ wG := List.mem_filter.mpr ⟨List.mem_append_right _ (List.mem_of_getElem? (i := 21) (by decide +kernel)), by decide +kernel⟩
theorem kw_22 : (Jvm.Cond.classLink "Takinghall" (9 : Nat) "Takinghall$Plot") ∈ wG := List.mem_filter.mpr ⟨List.mem_append_right _ (List.mem_of_getElem? (i := 22) (by decide +kernel)), by decide +kernel⟩
theorem kw_24 : (Jvm.Cond.classLink "Takinghall" (15 : Nat) "Takinghall$Price") ∈ wG := List.mem_filter.mpr ⟨List.mem_append_right _ (List.mem_of_getElem? (i := 24) (by decide +kernel)), by decide +kernel⟩
theorem kw_26 : (Jvm.Cond.classLink "Takinghall" (21 : Nat) "Takinghall$Interest") ∈ wG := List.mem_filter.mpr ⟨List.mem_append_right _ (List.mem_of_getElem? (i := 26) (by decide +kernel)), by decide +kernel⟩
theorem kw_28 : (Jvm.Cond.classLink "Takinghall" (27 : Nat) "Takinghall$Scheme") ∈ wG := List.mem_filter.mpr ⟨List.mem_append_right _ (List.mem_of_getElem? (i := 28) (by decide +kernel)), by decide +kernel⟩
theorem kw_30 : (Jvm.Cond.instantiable "Takinghall$Plot" (11 : Nat)) ∈ wG := List.mem_filter.mpr ⟨List.mem_append_right _ (List.mem_of_getElem? (i := 30) (by decide +kernel)), by decide +kernel⟩
theorem kw_31 : (Jvm.Cond.methodLink "Takinghall" (33 : Nat) ({ cls := "Takinghall$Plot", name := "<init>", desc := "(I)V" } : Jvm.MethodName)) ∈ wG := List.mem_filter.mpr ⟨List.mem_append_right _ (List.mem_of_getElem? (i := 31) (by decide +kernel)), by decide +kernel⟩
theorem kw_32 : (Jvm.Cond.instanceMethod ({ cls := "Takinghall$Plot", name := "<init>", desc := "(I)V" } : Jvm.MethodName)) ∈ wG := List.mem_filter.mpr ⟨List.mem_append_right _ (List.mem_of_getElem? (i := 32) (by decide +kernel)), by decide +kernel⟩
theorem kw_33 : (Jvm.Cond.code ({ cls := "Takinghall$Plot", name := "<init>", desc := "(I)V" } : Jvm.MethodName) prog_3_method_1_code (2 : Nat) (Option.none : Option Jvm.ClassFile.FieldType)) ∈ wG := List.mem_filter.mpr ⟨List.mem_append_right _ (List.mem_of_getElem? (i := 33) (by decide +kernel)), by decide +kernel⟩
theorem kw_34 : (Jvm.Cond.methodLink "Takinghall$Plot" (3 : Nat) ({ cls := "java/lang/Object", name := "<init>", desc := "()V" } : Jvm.MethodName)) ∈ wG := List.mem_filter.mpr ⟨List.mem_append_right _ (List.mem_of_getElem? (i := 34) (by decide +kernel)), by decide +kernel⟩
theorem kw_35 : (Jvm.Cond.fieldLink "Takinghall$Plot" (24 : Nat) "Takinghall$Plot" "number" "I") ∈ wG := List.mem_filter.mpr ⟨List.mem_append_right _ (List.mem_of_getElem? (i := 35) (by decide +kernel)), by decide +kernel⟩
theorem kw_36 : (Jvm.Cond.fieldLink "Takinghall" (109 : Nat) "Takinghall$Plot" "number" "I") ∈ wG := List.mem_filter.mpr ⟨List.mem_append_right _ (List.mem_of_getElem? (i := 36) (by decide +kernel)), by decide +kernel⟩
theorem kw_37 : (Jvm.Cond.fieldLink "Takinghall$Plot" (9 : Nat) "Takinghall$Plot" "area" "I") ∈ wG := List.mem_filter.mpr ⟨List.mem_append_right _ (List.mem_of_getElem? (i := 37) (by decide +kernel)), by decide +kernel⟩
theorem kw_38 : (Jvm.Cond.fieldLink "Takinghall" (76 : Nat) "Takinghall$Plot" "area" "I") ∈ wG := List.mem_filter.mpr ⟨List.mem_append_right _ (List.mem_of_getElem? (i := 38) (by decide +kernel)), by decide +kernel⟩
theorem kw_39 : (Jvm.Cond.fieldLink "Takinghall$Plot" (15 : Nat) "Takinghall$Plot" "use" "I") ∈ wG := List.mem_filter.mpr ⟨List.mem_append_right _ (List.mem_of_getElem? (i := 39) (by decide +kernel)), by decide +kernel⟩
theorem kw_40 : (Jvm.Cond.fieldLink "Takinghall" (79 : Nat) "Takinghall$Plot" "use" "I") ∈ wG := List.mem_filter.mpr ⟨List.mem_append_right _ (List.mem_of_getElem? (i := 40) (by decide +kernel)), by decide +kernel⟩
theorem kw_41 : (Jvm.Cond.fieldLink "Takinghall$Plot" (18 : Nat) "Takinghall$Plot" "state" "I") ∈ wG := List.mem_filter.mpr ⟨List.mem_append_right _ (List.mem_of_getElem? (i := 41) (by decide +kernel)), by decide +kernel⟩
theorem kw_42 : (Jvm.Cond.fieldLink "Takinghall" (63 : Nat) "Takinghall$Plot" "state" "I") ∈ wG := List.mem_filter.mpr ⟨List.mem_append_right _ (List.mem_of_getElem? (i := 42) (by decide +kernel)), by decide +kernel⟩
theorem kw_43 : (Jvm.Cond.fieldLink "Takinghall" (230 : Nat) "Takinghall$Plot" "scheme" "LTakinghall$Scheme;") ∈ wG := List.mem_filter.mpr ⟨List.mem_append_right _ (List.mem_of_getElem? (i := 43) (by decide +kernel)), by decide +kernel⟩
theorem kw_44 : (Jvm.Cond.fieldLink "Takinghall" (123 : Nat) "Takinghall$Plot" "part" "I") ∈ wG := List.mem_filter.mpr ⟨List.mem_append_right _ (List.mem_of_getElem? (i := 44) (by decide +kernel)), by decide +kernel⟩
theorem kw_45 : (Jvm.Cond.fieldLink "Takinghall$Plot" (21 : Nat) "Takinghall$Plot" "valueDay" "I") ∈ wG := List.mem_filter.mpr ⟨List.mem_append_right _ (List.mem_of_getElem? (i := 45) (by decide +kernel)), by decide +kernel⟩
theorem kw_46 : (Jvm.Cond.fieldLink "Takinghall" (126 : Nat) "Takinghall$Plot" "valueDay" "I") ∈ wG := List.mem_filter.mpr ⟨List.mem_append_right _ (List.mem_of_getElem? (i := 46) (by decide +kernel)), by decide +kernel⟩
theorem kw_47 : (Jvm.Cond.fieldLink "Takinghall" (387 : Nat) "Takinghall$Plot" "valuePrice" "LTakinghall$Price;") ∈ wG := List.mem_filter.mpr ⟨List.mem_append_right _ (List.mem_of_getElem? (i := 47) (by decide +kernel)), by decide +kernel⟩
theorem kw_48 : (Jvm.Cond.fieldLink "Takinghall" (129 : Nat) "Takinghall$Plot" "hasWorks" "Z") ∈ wG := List.mem_filter.mpr ⟨List.mem_append_right _ (List.mem_of_getElem? (i := 48) (by decide +kernel)), by decide +kernel⟩
theorem kw_49 : (Jvm.Cond.fieldLink "Takinghall" (133 : Nat) "Takinghall$Plot" "offeredTo" "LTakinghall$Interest;") ∈ wG := List.mem_filter.mpr ⟨List.mem_append_right _ (List.mem_of_getElem? (i := 49) (by decide +kernel)), by decide +kernel⟩
theorem kw_50 : (Jvm.Cond.fieldLink "Takinghall" (140 : Nat) "Takinghall$Plot" "offerPrice" "I") ∈ wG := List.mem_filter.mpr ⟨List.mem_append_right _ (List.mem_of_getElem? (i := 50) (by decide +kernel)), by decide +kernel⟩
theorem kw_51 : (Jvm.Cond.laysFinal "Takinghall$Plot" "Takinghall$Plot" "number" "I") ∈ wG := List.mem_filter.mpr ⟨List.mem_append_right _ (List.mem_of_getElem? (i := 51) (by decide +kernel)), by decide +kernel⟩
theorem kw_53 : (Jvm.Cond.lays "Takinghall$Plot" "Takinghall$Plot" "area" "I") ∈ wG := List.mem_filter.mpr ⟨List.mem_append_right _ (List.mem_of_getElem? (i := 53) (by decide +kernel)), by decide +kernel⟩
theorem kw_55 : (Jvm.Cond.lays "Takinghall$Plot" "Takinghall$Plot" "use" "I") ∈ wG := List.mem_filter.mpr ⟨List.mem_append_right _ (List.mem_of_getElem? (i := 55) (by decide +kernel)), by decide +kernel⟩
theorem kw_57 : (Jvm.Cond.lays "Takinghall$Plot" "Takinghall$Plot" "state" "I") ∈ wG := List.mem_filter.mpr ⟨List.mem_append_right _ (List.mem_of_getElem? (i := 57) (by decide +kernel)), by decide +kernel⟩
theorem kw_59 : (Jvm.Cond.lays "Takinghall$Plot" "Takinghall$Plot" "scheme" "LTakinghall$Scheme;") ∈ wG := List.mem_filter.mpr ⟨List.mem_append_right _ (List.mem_of_getElem? (i := 59) (by decide +kernel)), by decide +kernel⟩
theorem kw_61 : (Jvm.Cond.lays "Takinghall$Plot" "Takinghall$Plot" "part" "I") ∈ wG := List.mem_filter.mpr ⟨List.mem_append_right _ (List.mem_of_getElem? (i := 61) (by decide +kernel)), by decide +kernel⟩
theorem kw_63 : (Jvm.Cond.lays "Takinghall$Plot" "Takinghall$Plot" "valueDay" "I") ∈ wG := List.mem_filter.mpr ⟨List.mem_append_right _ (List.mem_of_getElem? (i := 63) (by decide +kernel)), by decide +kernel⟩
theorem kw_65 : (Jvm.Cond.lays "Takinghall$Plot" "Takinghall$Plot" "valuePrice" "LTakinghall$Price;") ∈ wG := List.mem_filter.mpr ⟨List.mem_append_right _ (List.mem_of_getElem? (i := 65) (by decide +kernel)), by decide +kernel⟩
theorem kw_67 : (Jvm.Cond.lays "Takinghall$Plot" "Takinghall$Plot" "hasWorks" "Z") ∈ wG := List.mem_filter.mpr ⟨List.mem_append_right _ (List.mem_of_getElem? (i := 67) (by decide +kernel)), by decide +kernel⟩
theorem kw_69 : (Jvm.Cond.lays "Takinghall$Plot" "Takinghall$Plot" "offeredTo" "LTakinghall$Interest;") ∈ wG := List.mem_filter.mpr ⟨List.mem_append_right _ (List.mem_of_getElem? (i := 69) (by decide +kernel)), by decide +kernel⟩
theorem kw_71 : (Jvm.Cond.lays "Takinghall$Plot" "Takinghall$Plot" "offerPrice" "I") ∈ wG := List.mem_filter.mpr ⟨List.mem_append_right _ (List.mem_of_getElem? (i := 71) (by decide +kernel)), by decide +kernel⟩
theorem kw_74 : (Jvm.Cond.instantiable "Takinghall$Price" (3 : Nat)) ∈ wG := List.mem_filter.mpr ⟨List.mem_append_right _ (List.mem_of_getElem? (i := 74) (by decide +kernel)), by decide +kernel⟩
theorem kw_75 : (Jvm.Cond.methodLink "Takinghall" (36 : Nat) ({ cls := "Takinghall$Price", name := "<init>", desc := "(IILTakinghall$Price;)V" } : Jvm.MethodName)) ∈ wG := List.mem_filter.mpr ⟨List.mem_append_right _ (List.mem_of_getElem? (i := 75) (by decide +kernel)), by decide +kernel⟩
theorem kw_76 : (Jvm.Cond.instanceMethod ({ cls := "Takinghall$Price", name := "<init>", desc := "(IILTakinghall$Price;)V" } : Jvm.MethodName)) ∈ wG := List.mem_filter.mpr ⟨List.mem_append_right _ (List.mem_of_getElem? (i := 76) (by decide +kernel)), by decide +kernel⟩
theorem kw_77 : (Jvm.Cond.code ({ cls := "Takinghall$Price", name := "<init>", desc := "(IILTakinghall$Price;)V" } : Jvm.MethodName) prog_4_method_1_code (4 : Nat) (Option.none : Option Jvm.ClassFile.FieldType)) ∈ wG := List.mem_filter.mpr ⟨List.mem_append_right _ (List.mem_of_getElem? (i := 77) (by decide +kernel)), by decide +kernel⟩
theorem kw_78 : (Jvm.Cond.methodLink "Takinghall$Price" (1 : Nat) ({ cls := "java/lang/Object", name := "<init>", desc := "()V" } : Jvm.MethodName)) ∈ wG := List.mem_filter.mpr ⟨List.mem_append_right _ (List.mem_of_getElem? (i := 78) (by decide +kernel)), by decide +kernel⟩
theorem kw_79 : (Jvm.Cond.fieldLink "Takinghall$Price" (7 : Nat) "Takinghall$Price" "day" "I") ∈ wG := List.mem_filter.mpr ⟨List.mem_append_right _ (List.mem_of_getElem? (i := 79) (by decide +kernel)), by decide +kernel⟩
theorem kw_80 : (Jvm.Cond.fieldLink "Takinghall" (360 : Nat) "Takinghall$Price" "day" "I") ∈ wG := List.mem_filter.mpr ⟨List.mem_append_right _ (List.mem_of_getElem? (i := 80) (by decide +kernel)), by decide +kernel⟩
theorem kw_81 : (Jvm.Cond.fieldLink "Takinghall$Price" (13 : Nat) "Takinghall$Price" "cents" "I") ∈ wG := List.mem_filter.mpr ⟨List.mem_append_right _ (List.mem_of_getElem? (i := 81) (by decide +kernel)), by decide +kernel⟩
theorem kw_82 : (Jvm.Cond.fieldLink "Takinghall" (367 : Nat) "Takinghall$Price" "cents" "I") ∈ wG := List.mem_filter.mpr ⟨List.mem_append_right _ (List.mem_of_getElem? (i := 82) (by decide +kernel)), by decide +kernel⟩
theorem kw_83 : (Jvm.Cond.fieldLink "Takinghall$Price" (16 : Nat) "Takinghall$Price" "earlier" "LTakinghall$Price;") ∈ wG := List.mem_filter.mpr ⟨List.mem_append_right _ (List.mem_of_getElem? (i := 83) (by decide +kernel)), by decide +kernel⟩
theorem kw_84 : (Jvm.Cond.fieldLink "Takinghall" (363 : Nat) "Takinghall$Price" "earlier" "LTakinghall$Price;") ∈ wG := List.mem_filter.mpr ⟨List.mem_append_right _ (List.mem_of_getElem? (i := 84) (by decide +kernel)), by decide +kernel⟩
theorem kw_85 : (Jvm.Cond.laysFinal "Takinghall$Price" "Takinghall$Price" "day" "I") ∈ wG := List.mem_filter.mpr ⟨List.mem_append_right _ (List.mem_of_getElem? (i := 85) (by decide +kernel)), by decide +kernel⟩
theorem kw_87 : (Jvm.Cond.laysFinal "Takinghall$Price" "Takinghall$Price" "cents" "I") ∈ wG := List.mem_filter.mpr ⟨List.mem_append_right _ (List.mem_of_getElem? (i := 87) (by decide +kernel)), by decide +kernel⟩
theorem kw_89 : (Jvm.Cond.laysFinal "Takinghall$Price" "Takinghall$Price" "earlier" "LTakinghall$Price;") ∈ wG := List.mem_filter.mpr ⟨List.mem_append_right _ (List.mem_of_getElem? (i := 89) (by decide +kernel)), by decide +kernel⟩
theorem kw_92 : (Jvm.Cond.fieldLink "Takinghall" (11 : Nat) "Takinghall" "plots" "[LTakinghall$Plot;") ∈ wG := List.mem_filter.mpr ⟨List.mem_append_right _ (List.mem_of_getElem? (i := 92) (by decide +kernel)), by decide +kernel⟩
theorem kw_93 : (Jvm.Cond.fieldLink "Takinghall" (17 : Nat) "Takinghall" "latestPrices" "[LTakinghall$Price;") ∈ wG := List.mem_filter.mpr ⟨List.mem_append_right _ (List.mem_of_getElem? (i := 93) (by decide +kernel)), by decide +kernel⟩
theorem kw_94 : (Jvm.Cond.fieldLink "Takinghall" (23 : Nat) "Takinghall" "interests" "[LTakinghall$Interest;") ∈ wG := List.mem_filter.mpr ⟨List.mem_append_right _ (List.mem_of_getElem? (i := 94) (by decide +kernel)), by decide +kernel⟩
theorem kw_95 : (Jvm.Cond.fieldLink "Takinghall" (381 : Nat) "Takinghall" "interestCount" "I") ∈ wG := List.mem_filter.mpr ⟨List.mem_append_right _ (List.mem_of_getElem? (i := 95) (by decide +kernel)), by decide +kernel⟩
theorem kw_96 : (Jvm.Cond.fieldLink "Takinghall" (29 : Nat) "Takinghall" "schemes" "[LTakinghall$Scheme;") ∈ wG := List.mem_filter.mpr ⟨List.mem_append_right _ (List.mem_of_getElem? (i := 96) (by decide +kernel)), by decide +kernel⟩
theorem kw_97 : (Jvm.Cond.fieldLink "Takinghall" (211 : Nat) "Takinghall" "schemeCount" "I") ∈ wG := List.mem_filter.mpr ⟨List.mem_append_right _ (List.mem_of_getElem? (i := 97) (by decide +kernel)), by decide +kernel⟩
theorem kw_98 : (Jvm.Cond.fieldLink "Takinghall" (84 : Nat) "Takinghall" "now" "I") ∈ wG := List.mem_filter.mpr ⟨List.mem_append_right _ (List.mem_of_getElem? (i := 98) (by decide +kernel)), by decide +kernel⟩
theorem kw_99 : (Jvm.Cond.fieldLink "Takinghall" (348 : Nat) "Takinghall" "allSums" "J") ∈ wG := List.mem_filter.mpr ⟨List.mem_append_right _ (List.mem_of_getElem? (i := 99) (by decide +kernel)), by decide +kernel⟩
theorem kw_100 : (Jvm.Cond.fieldLink "Takinghall" (326 : Nat) "Takinghall" "allPaid" "J") ∈ wG := List.mem_filter.mpr ⟨List.mem_append_right _ (List.mem_of_getElem? (i := 100) (by decide +kernel)), by decide +kernel⟩
theorem kw_101 : (Jvm.Cond.fieldLink "Takinghall" (351 : Nat) "Takinghall" "inCourt" "J") ∈ wG := List.mem_filter.mpr ⟨List.mem_append_right _ (List.mem_of_getElem? (i := 101) (by decide +kernel)), by decide +kernel⟩
theorem kw_102 : (Jvm.Cond.fieldLink "Takinghall" (341 : Nat) "Takinghall" "paidForBack" "J") ∈ wG := List.mem_filter.mpr ⟨List.mem_append_right _ (List.mem_of_getElem? (i := 102) (by decide +kernel)), by decide +kernel⟩
theorem kw_103 : (Jvm.Cond.fieldLink "Takinghall" (354 : Nat) "Takinghall" "allLand" "J") ∈ wG := List.mem_filter.mpr ⟨List.mem_append_right _ (List.mem_of_getElem? (i := 103) (by decide +kernel)), by decide +kernel⟩
theorem kw_104 : (Jvm.Cond.laysFinal "Takinghall" "Takinghall" "plots" "[LTakinghall$Plot;") ∈ wG := List.mem_filter.mpr ⟨List.mem_append_right _ (List.mem_of_getElem? (i := 104) (by decide +kernel)), by decide +kernel⟩
theorem kw_106 : (Jvm.Cond.laysFinal "Takinghall" "Takinghall" "latestPrices" "[LTakinghall$Price;") ∈ wG := List.mem_filter.mpr ⟨List.mem_append_right _ (List.mem_of_getElem? (i := 106) (by decide +kernel)), by decide +kernel⟩
theorem kw_108 : (Jvm.Cond.laysFinal "Takinghall" "Takinghall" "interests" "[LTakinghall$Interest;") ∈ wG := List.mem_filter.mpr ⟨List.mem_append_right _ (List.mem_of_getElem? (i := 108) (by decide +kernel)), by decide +kernel⟩
theorem kw_110 : (Jvm.Cond.lays "Takinghall" "Takinghall" "interestCount" "I") ∈ wG := List.mem_filter.mpr ⟨List.mem_append_right _ (List.mem_of_getElem? (i := 110) (by decide +kernel)), by decide +kernel⟩
theorem kw_112 : (Jvm.Cond.laysFinal "Takinghall" "Takinghall" "schemes" "[LTakinghall$Scheme;") ∈ wG := List.mem_filter.mpr ⟨List.mem_append_right _ (List.mem_of_getElem? (i := 112) (by decide +kernel)), by decide +kernel⟩
theorem kw_114 : (Jvm.Cond.lays "Takinghall" "Takinghall" "schemeCount" "I") ∈ wG := List.mem_filter.mpr ⟨List.mem_append_right _ (List.mem_of_getElem? (i := 114) (by decide +kernel)), by decide +kernel⟩
theorem kw_116 : (Jvm.Cond.lays "Takinghall" "Takinghall" "now" "I") ∈ wG := List.mem_filter.mpr ⟨List.mem_append_right _ (List.mem_of_getElem? (i := 116) (by decide +kernel)), by decide +kernel⟩
theorem kw_118 : (Jvm.Cond.lays "Takinghall" "Takinghall" "allSums" "J") ∈ wG := List.mem_filter.mpr ⟨List.mem_append_right _ (List.mem_of_getElem? (i := 118) (by decide +kernel)), by decide +kernel⟩
theorem kw_120 : (Jvm.Cond.lays "Takinghall" "Takinghall" "allPaid" "J") ∈ wG := List.mem_filter.mpr ⟨List.mem_append_right _ (List.mem_of_getElem? (i := 120) (by decide +kernel)), by decide +kernel⟩
theorem kw_122 : (Jvm.Cond.lays "Takinghall" "Takinghall" "inCourt" "J") ∈ wG := List.mem_filter.mpr ⟨List.mem_append_right _ (List.mem_of_getElem? (i := 122) (by decide +kernel)), by decide +kernel⟩
theorem kw_124 : (Jvm.Cond.lays "Takinghall" "Takinghall" "paidForBack" "J") ∈ wG := List.mem_filter.mpr ⟨List.mem_append_right _ (List.mem_of_getElem? (i := 124) (by decide +kernel)), by decide +kernel⟩
theorem kw_126 : (Jvm.Cond.lays "Takinghall" "Takinghall" "allLand" "J") ∈ wG := List.mem_filter.mpr ⟨List.mem_append_right _ (List.mem_of_getElem? (i := 126) (by decide +kernel)), by decide +kernel⟩
theorem kw_129 : (Jvm.Cond.methodLink "TakinghallLaw" (211 : Nat) ({ cls := "Takinghall", name := "today", desc := "()I" } : Jvm.MethodName)) ∈ wG := List.mem_filter.mpr ⟨List.mem_append_right _ (List.mem_of_getElem? (i := 129) (by decide +kernel)), by decide +kernel⟩
theorem kw_130 : (Jvm.Cond.instanceMethod ({ cls := "Takinghall", name := "today", desc := "()I" } : Jvm.MethodName)) ∈ wG := List.mem_filter.mpr ⟨List.mem_append_right _ (List.mem_of_getElem? (i := 130) (by decide +kernel)), by decide +kernel⟩
theorem kw_131 : (Jvm.Cond.selects "Takinghall" ({ cls := "Takinghall", name := "today", desc := "()I" } : Jvm.MethodName) ({ cls := "Takinghall", name := "today", desc := "()I" } : Jvm.MethodName)) ∈ wG := List.mem_filter.mpr ⟨List.mem_append_right _ (List.mem_of_getElem? (i := 131) (by decide +kernel)), by decide +kernel⟩
theorem kw_132 : (Jvm.Cond.code ({ cls := "Takinghall", name := "today", desc := "()I" } : Jvm.MethodName) prog_1_method_30_code (1 : Nat) (Option.some Jvm.ClassFile.FieldType.int)) ∈ wG := List.mem_filter.mpr ⟨List.mem_append_right _ (List.mem_of_getElem? (i := 132) (by decide +kernel)), by decide +kernel⟩
theorem kw_133 : (Jvm.Cond.methodLink "TakinghallLaw" (116 : Nat) ({ cls := "TakinghallLaw", name := "plot", desc := "(LTakinghall;III[J)I" } : Jvm.MethodName)) ∈ wG := List.mem_filter.mpr ⟨List.mem_append_right _ (List.mem_of_getElem? (i := 133) (by decide +kernel)), by decide +kernel⟩
theorem kw_134 : (Jvm.Cond.static ({ cls := "TakinghallLaw", name := "plot", desc := "(LTakinghall;III[J)I" } : Jvm.MethodName)) ∈ wG := List.mem_filter.mpr ⟨List.mem_append_right _ (List.mem_of_getElem? (i := 134) (by decide +kernel)), by decide +kernel⟩
theorem kw_135 : (Jvm.Cond.codeWith ({ cls := "TakinghallLaw", name := "plot", desc := "(LTakinghall;III[J)I" } : Jvm.MethodName) method_3_code (6 : Nat) (Option.some Jvm.ClassFile.FieldType.int) [((0 : Nat), (12 : Nat), (15 : Nat), (13 : Nat)), ((0 : Nat), (12 : Nat), (19 : Nat), (15 : Nat)), ((0 : Nat), (12 : Nat), (23 : Nat), (17 : Nat))]) ∈ wG := List.mem_filter.mpr ⟨List.mem_append_right _ (List.mem_of_getElem? (i := 135) (by decide +kernel)), by decide +kernel⟩
theorem kw_136 : (Jvm.Cond.classLink "TakinghallLaw" (13 : Nat) "java/lang/IndexOutOfBoundsException") ∈ wG := List.mem_filter.mpr ⟨List.mem_append_right _ (List.mem_of_getElem? (i := 136) (by decide +kernel)), by decide +kernel⟩
theorem kw_137 : (Jvm.Cond.classLink "TakinghallLaw" (15 : Nat) "java/lang/IllegalArgumentException") ∈ wG := List.mem_filter.mpr ⟨List.mem_append_right _ (List.mem_of_getElem? (i := 137) (by decide +kernel)), by decide +kernel⟩
theorem kw_138 : (Jvm.Cond.classLink "TakinghallLaw" (17 : Nat) "java/lang/IllegalStateException") ∈ wG := List.mem_filter.mpr ⟨List.mem_append_right _ (List.mem_of_getElem? (i := 138) (by decide +kernel)), by decide +kernel⟩
theorem kw_139 : (Jvm.Cond.methodLink "TakinghallLaw" (7 : Nat) ({ cls := "Takinghall", name := "plot", desc := "(III)I" } : Jvm.MethodName)) ∈ wG := List.mem_filter.mpr ⟨List.mem_append_right _ (List.mem_of_getElem? (i := 139) (by decide +kernel)), by decide +kernel⟩
theorem kw_140 : (Jvm.Cond.instanceMethod ({ cls := "Takinghall", name := "plot", desc := "(III)I" } : Jvm.MethodName)) ∈ wG := List.mem_filter.mpr ⟨List.mem_append_right _ (List.mem_of_getElem? (i := 140) (by decide +kernel)), by decide +kernel⟩
theorem kw_141 : (Jvm.Cond.selects "Takinghall" ({ cls := "Takinghall", name := "plot", desc := "(III)I" } : Jvm.MethodName) ({ cls := "Takinghall", name := "plot", desc := "(III)I" } : Jvm.MethodName)) ∈ wG := List.mem_filter.mpr ⟨List.mem_append_right _ (List.mem_of_getElem? (i := 141) (by decide +kernel)), by decide +kernel⟩
theorem kw_142 : (Jvm.Cond.code ({ cls := "Takinghall", name := "plot", desc := "(III)I" } : Jvm.MethodName) prog_1_method_2_code (6 : Nat) (Option.some Jvm.ClassFile.FieldType.int)) ∈ wG := List.mem_filter.mpr ⟨List.mem_append_right _ (List.mem_of_getElem? (i := 142) (by decide +kernel)), by decide +kernel⟩
theorem kw_143 : (Jvm.Cond.methodLink "Takinghall" (39 : Nat) ({ cls := "Takinghall", name := "plotAt", desc := "(I)LTakinghall$Plot;" } : Jvm.MethodName)) ∈ wG := List.mem_filter.mpr ⟨List.mem_append_right _ (List.mem_of_getElem? (i := 143) (by decide +kernel)), by decide +kernel⟩
theorem kw_145 : (Jvm.Cond.instanceMethod ({ cls := "Takinghall", name := "plotAt", desc := "(I)LTakinghall$Plot;" } : Jvm.MethodName)) ∈ wG := List.mem_filter.mpr ⟨List.mem_append_right _ (List.mem_of_getElem? (i := 145) (by decide +kernel)), by decide +kernel⟩
theorem kw_146 : (Jvm.Cond.code ({ cls := "Takinghall", name := "plotAt", desc := "(I)LTakinghall$Plot;" } : Jvm.MethodName) prog_1_method_37_code (2 : Nat) (Option.some (Jvm.ClassFile.FieldType.object "Takinghall$Plot"))) ∈ wG := List.mem_filter.mpr ⟨List.mem_append_right _ (List.mem_of_getElem? (i := 146) (by decide +kernel)), by decide +kernel⟩
theorem kw_147 : (Jvm.Cond.classLink "Takinghall" (43 : Nat) "java/lang/IndexOutOfBoundsException") ∈ wG := List.mem_filter.mpr ⟨List.mem_append_right _ (List.mem_of_getElem? (i := 147) (by decide +kernel)), by decide +kernel⟩
theorem kw_148 : (Jvm.Cond.instantiable "java/lang/IndexOutOfBoundsException" (6 : Nat)) ∈ wG := List.mem_filter.mpr ⟨List.mem_append_right _ (List.mem_of_getElem? (i := 148) (by decide +kernel)), by decide +kernel⟩
theorem kw_156 : (Jvm.Cond.selects "java/lang/IndexOutOfBoundsException" ({ cls := "java/lang/Throwable", name := "fillInStackTrace", desc := "(I)Ljava/lang/Throwable;" } : Jvm.MethodName) ({ cls := "java/lang/Throwable", name := "fillInStackTrace", desc := "(I)Ljava/lang/Throwable;" } : Jvm.MethodName)) ∈ wG := List.mem_filter.mpr ⟨List.mem_append_right _ (List.mem_of_getElem? (i := 156) (by decide +kernel)), by decide +kernel⟩
theorem kw_157 : (Jvm.Cond.selects "java/lang/IndexOutOfBoundsException" ({ cls := "java/lang/Throwable", name := "fillInStackTrace", desc := "()Ljava/lang/Throwable;" } : Jvm.MethodName) ({ cls := "java/lang/Throwable", name := "fillInStackTrace", desc := "()Ljava/lang/Throwable;" } : Jvm.MethodName)) ∈ wG := List.mem_filter.mpr ⟨List.mem_append_right _ (List.mem_of_getElem? (i := 157) (by decide +kernel)), by decide +kernel⟩
theorem kw_158 : (Jvm.Cond.lays "java/lang/IndexOutOfBoundsException" "java/lang/Throwable" "cause" "Ljava/lang/Throwable;") ∈ wG := List.mem_filter.mpr ⟨List.mem_append_right _ (List.mem_of_getElem? (i := 158) (by decide +kernel)), by decide +kernel⟩
theorem kw_159 : (Jvm.Cond.lays "java/lang/Throwable" "java/lang/Throwable" "cause" "Ljava/lang/Throwable;") ∈ wG := List.mem_filter.mpr ⟨List.mem_append_right _ (List.mem_of_getElem? (i := 159) (by decide +kernel)), by decide +kernel⟩
theorem kw_160 : (Jvm.Cond.lays "java/lang/IndexOutOfBoundsException" "java/lang/Throwable" "stackTrace" "[Ljava/lang/StackTraceElement;") ∈ wG := List.mem_filter.mpr ⟨List.mem_append_right _ (List.mem_of_getElem? (i := 160) (by decide +kernel)), by decide +kernel⟩
theorem kw_161 : (Jvm.Cond.lays "java/lang/Throwable" "java/lang/Throwable" "stackTrace" "[Ljava/lang/StackTraceElement;") ∈ wG := List.mem_filter.mpr ⟨List.mem_append_right _ (List.mem_of_getElem? (i := 161) (by decide +kernel)), by decide +kernel⟩
theorem kw_162 : (Jvm.Cond.lays "java/lang/IndexOutOfBoundsException" "java/lang/Throwable" "suppressedExceptions" "Ljava/util/List;") ∈ wG := List.mem_filter.mpr ⟨List.mem_append_right _ (List.mem_of_getElem? (i := 162) (by decide +kernel)), by decide +kernel⟩
theorem kw_163 : (Jvm.Cond.lays "java/lang/Throwable" "java/lang/Throwable" "suppressedExceptions" "Ljava/util/List;") ∈ wG := List.mem_filter.mpr ⟨List.mem_append_right _ (List.mem_of_getElem? (i := 163) (by decide +kernel)), by decide +kernel⟩
theorem kw_164 : (Jvm.Cond.lays "java/lang/IndexOutOfBoundsException" "java/lang/Throwable" "detailMessage" "Ljava/lang/String;") ∈ wG := List.mem_filter.mpr ⟨List.mem_append_right _ (List.mem_of_getElem? (i := 164) (by decide +kernel)), by decide +kernel⟩
theorem kw_165 : (Jvm.Cond.lays "java/lang/Throwable" "java/lang/Throwable" "detailMessage" "Ljava/lang/String;") ∈ wG := List.mem_filter.mpr ⟨List.mem_append_right _ (List.mem_of_getElem? (i := 165) (by decide +kernel)), by decide +kernel⟩
theorem kw_166 : (Jvm.Cond.lays "java/lang/IndexOutOfBoundsException" "java/lang/Throwable" "backtrace" "Ljava/lang/Object;") ∈ wG := List.mem_filter.mpr ⟨List.mem_append_right _ (List.mem_of_getElem? (i := 166) (by decide +kernel)), by decide +kernel⟩
theorem kw_167 : (Jvm.Cond.lays "java/lang/Throwable" "java/lang/Throwable" "backtrace" "Ljava/lang/Object;") ∈ wG := List.mem_filter.mpr ⟨List.mem_append_right _ (List.mem_of_getElem? (i := 167) (by decide +kernel)), by decide +kernel⟩
theorem kw_168 : (Jvm.Cond.fieldLink "java/lang/Throwable" (198 : Nat) "java/lang/Throwable" "backtrace" "Ljava/lang/Object;") ∈ wG := List.mem_filter.mpr ⟨List.mem_append_right _ (List.mem_of_getElem? (i := 168) (by decide +kernel)), by decide +kernel⟩
theorem kw_170 : (Jvm.Cond.instanceMethod ({ cls := "java/lang/Throwable", name := "<init>", desc := "()V" } : Jvm.MethodName)) ∈ wG := List.mem_filter.mpr ⟨List.mem_append_right _ (List.mem_of_getElem? (i := 170) (by decide +kernel)), by decide +kernel⟩
theorem kw_171 : (Jvm.Cond.code ({ cls := "java/lang/Throwable", name := "<init>", desc := "()V" } : Jvm.MethodName) prog_15_method_1_code (1 : Nat) (Option.none : Option Jvm.ClassFile.FieldType)) ∈ wG := List.mem_filter.mpr ⟨List.mem_append_right _ (List.mem_of_getElem? (i := 171) (by decide +kernel)), by decide +kernel⟩
theorem kw_172 : (Jvm.Cond.methodLink "java/lang/Throwable" (1 : Nat) ({ cls := "java/lang/Object", name := "<init>", desc := "()V" } : Jvm.MethodName)) ∈ wG := List.mem_filter.mpr ⟨List.mem_append_right _ (List.mem_of_getElem? (i := 172) (by decide +kernel)), by decide +kernel⟩
theorem kw_173 : (Jvm.Cond.fieldLink "java/lang/Throwable" (13 : Nat) "java/lang/Throwable" "UNASSIGNED_STACK" "[Ljava/lang/StackTraceElement;") ∈ wG := List.mem_filter.mpr ⟨List.mem_append_right _ (List.mem_of_getElem? (i := 173) (by decide +kernel)), by decide +kernel⟩
theorem kw_175 : (Jvm.Cond.fieldLink "java/lang/Throwable" (20 : Nat) "java/lang/Throwable" "SUPPRESSED_SENTINEL" "Ljava/util/List;") ∈ wG := List.mem_filter.mpr ⟨List.mem_append_right _ (List.mem_of_getElem? (i := 175) (by decide +kernel)), by decide +kernel⟩
theorem kw_177 : (Jvm.Cond.methodLink "java/lang/Throwable" (27 : Nat) ({ cls := "java/lang/Throwable", name := "fillInStackTrace", desc := "()Ljava/lang/Throwable;" } : Jvm.MethodName)) ∈ wG := List.mem_filter.mpr ⟨List.mem_append_right _ (List.mem_of_getElem? (i := 177) (by decide +kernel)), by decide +kernel⟩
theorem kw_178 : (Jvm.Cond.instanceMethod ({ cls := "java/lang/Throwable", name := "fillInStackTrace", desc := "()Ljava/lang/Throwable;" } : Jvm.MethodName)) ∈ wG := List.mem_filter.mpr ⟨List.mem_append_right _ (List.mem_of_getElem? (i := 178) (by decide +kernel)), by decide +kernel⟩
theorem kw_180 : (Jvm.Cond.selects "java/lang/IllegalArgumentException" ({ cls := "java/lang/Throwable", name := "fillInStackTrace", desc := "()Ljava/lang/Throwable;" } : Jvm.MethodName) ({ cls := "java/lang/Throwable", name := "fillInStackTrace", desc := "()Ljava/lang/Throwable;" } : Jvm.MethodName)) ∈ wG := List.mem_filter.mpr ⟨List.mem_append_right _ (List.mem_of_getElem? (i := 180) (by decide +kernel)), by decide +kernel⟩
theorem kw_181 : (Jvm.Cond.selects "java/lang/IllegalStateException" ({ cls := "java/lang/Throwable", name := "fillInStackTrace", desc := "()Ljava/lang/Throwable;" } : Jvm.MethodName) ({ cls := "java/lang/Throwable", name := "fillInStackTrace", desc := "()Ljava/lang/Throwable;" } : Jvm.MethodName)) ∈ wG := List.mem_filter.mpr ⟨List.mem_append_right _ (List.mem_of_getElem? (i := 181) (by decide +kernel)), by decide +kernel⟩
theorem kw_183 : (Jvm.Cond.methodLink "java/lang/Throwable" (202 : Nat) ({ cls := "java/lang/Throwable", name := "fillInStackTrace", desc := "(I)Ljava/lang/Throwable;" } : Jvm.MethodName)) ∈ wG := List.mem_filter.mpr ⟨List.mem_append_right _ (List.mem_of_getElem? (i := 183) (by decide +kernel)), by decide +kernel⟩
theorem kw_185 : (Jvm.Cond.instanceMethod ({ cls := "java/lang/Throwable", name := "fillInStackTrace", desc := "(I)Ljava/lang/Throwable;" } : Jvm.MethodName)) ∈ wG := List.mem_filter.mpr ⟨List.mem_append_right _ (List.mem_of_getElem? (i := 185) (by decide +kernel)), by decide +kernel⟩
theorem kw_186 : (Jvm.Cond.instantiable "java/lang/Throwable" (6 : Nat)) ∈ wG := List.mem_filter.mpr ⟨List.mem_append_right _ (List.mem_of_getElem? (i := 186) (by decide +kernel)), by decide +kernel⟩
theorem kw_189 : (Jvm.Cond.methodLink "Takinghall" (47 : Nat) ({ cls := "java/lang/IndexOutOfBoundsException", name := "<init>", desc := "(Ljava/lang/String;)V" } : Jvm.MethodName)) ∈ wG := List.mem_filter.mpr ⟨List.mem_append_right _ (List.mem_of_getElem? (i := 189) (by decide +kernel)), by decide +kernel⟩
theorem kw_190 : (Jvm.Cond.instanceMethod ({ cls := "java/lang/IndexOutOfBoundsException", name := "<init>", desc := "(Ljava/lang/String;)V" } : Jvm.MethodName)) ∈ wG := List.mem_filter.mpr ⟨List.mem_append_right _ (List.mem_of_getElem? (i := 190) (by decide +kernel)), by decide +kernel⟩
theorem kw_191 : (Jvm.Cond.code ({ cls := "java/lang/IndexOutOfBoundsException", name := "<init>", desc := "(Ljava/lang/String;)V" } : Jvm.MethodName) prog_11_method_2_code (2 : Nat) (Option.none : Option Jvm.ClassFile.FieldType)) ∈ wG := List.mem_filter.mpr ⟨List.mem_append_right _ (List.mem_of_getElem? (i := 191) (by decide +kernel)), by decide +kernel⟩
theorem kw_192 : (Jvm.Cond.methodLink "java/lang/IndexOutOfBoundsException" (7 : Nat) ({ cls := "java/lang/RuntimeException", name := "<init>", desc := "(Ljava/lang/String;)V" } : Jvm.MethodName)) ∈ wG := List.mem_filter.mpr ⟨List.mem_append_right _ (List.mem_of_getElem? (i := 192) (by decide +kernel)), by decide +kernel⟩
theorem kw_193 : (Jvm.Cond.instanceMethod ({ cls := "java/lang/RuntimeException", name := "<init>", desc := "(Ljava/lang/String;)V" } : Jvm.MethodName)) ∈ wG := List.mem_filter.mpr ⟨List.mem_append_right _ (List.mem_of_getElem? (i := 193) (by decide +kernel)), by decide +kernel⟩
theorem kw_194 : (Jvm.Cond.code ({ cls := "java/lang/RuntimeException", name := "<init>", desc := "(Ljava/lang/String;)V" } : Jvm.MethodName) prog_13_method_2_code (2 : Nat) (Option.none : Option Jvm.ClassFile.FieldType)) ∈ wG := List.mem_filter.mpr ⟨List.mem_append_right _ (List.mem_of_getElem? (i := 194) (by decide +kernel)), by decide +kernel⟩
theorem kw_195 : (Jvm.Cond.methodLink "java/lang/RuntimeException" (7 : Nat) ({ cls := "java/lang/Exception", name := "<init>", desc := "(Ljava/lang/String;)V" } : Jvm.MethodName)) ∈ wG := List.mem_filter.mpr ⟨List.mem_append_right _ (List.mem_of_getElem? (i := 195) (by decide +kernel)), by decide +kernel⟩
theorem kw_196 : (Jvm.Cond.instanceMethod ({ cls := "java/lang/Exception", name := "<init>", desc := "(Ljava/lang/String;)V" } : Jvm.MethodName)) ∈ wG := List.mem_filter.mpr ⟨List.mem_append_right _ (List.mem_of_getElem? (i := 196) (by decide +kernel)), by decide +kernel⟩
theorem kw_197 : (Jvm.Cond.code ({ cls := "java/lang/Exception", name := "<init>", desc := "(Ljava/lang/String;)V" } : Jvm.MethodName) prog_8_method_2_code (2 : Nat) (Option.none : Option Jvm.ClassFile.FieldType)) ∈ wG := List.mem_filter.mpr ⟨List.mem_append_right _ (List.mem_of_getElem? (i := 197) (by decide +kernel)), by decide +kernel⟩
theorem kw_198 : (Jvm.Cond.methodLink "java/lang/Exception" (7 : Nat) ({ cls := "java/lang/Throwable", name := "<init>", desc := "(Ljava/lang/String;)V" } : Jvm.MethodName)) ∈ wG := List.mem_filter.mpr ⟨List.mem_append_right _ (List.mem_of_getElem? (i := 198) (by decide +kernel)), by decide +kernel⟩
theorem kw_199 : (Jvm.Cond.instanceMethod ({ cls := "java/lang/Throwable", name := "<init>", desc := "(Ljava/lang/String;)V" } : Jvm.MethodName)) ∈ wG := List.mem_filter.mpr ⟨List.mem_append_right _ (List.mem_of_getElem? (i := 199) (by decide +kernel)), by decide +kernel⟩
theorem kw_200 : (Jvm.Cond.code ({ cls := "java/lang/Throwable", name := "<init>", desc := "(Ljava/lang/String;)V" } : Jvm.MethodName) prog_15_method_2_code (2 : Nat) (Option.none : Option Jvm.ClassFile.FieldType)) ∈ wG := List.mem_filter.mpr ⟨List.mem_append_right _ (List.mem_of_getElem? (i := 200) (by decide +kernel)), by decide +kernel⟩
theorem kw_202 : (Jvm.Cond.fieldLink "java/lang/Throwable" (31 : Nat) "java/lang/Throwable" "detailMessage" "Ljava/lang/String;") ∈ wG := List.mem_filter.mpr ⟨List.mem_append_right _ (List.mem_of_getElem? (i := 202) (by decide +kernel)), by decide +kernel⟩
theorem kw_203 : (Jvm.Cond.fieldLink "java/lang/Throwable" (7 : Nat) "java/lang/Throwable" "cause" "Ljava/lang/Throwable;") ∈ wG := List.mem_filter.mpr ⟨List.mem_append_right _ (List.mem_of_getElem? (i := 203) (by decide +kernel)), by decide +kernel⟩
theorem kw_204 : (Jvm.Cond.fieldLink "java/lang/Throwable" (17 : Nat) "java/lang/Throwable" "stackTrace" "[Ljava/lang/StackTraceElement;") ∈ wG := List.mem_filter.mpr ⟨List.mem_append_right _ (List.mem_of_getElem? (i := 204) (by decide +kernel)), by decide +kernel⟩
theorem kw_205 : (Jvm.Cond.fieldLink "java/lang/Throwable" (24 : Nat) "java/lang/Throwable" "suppressedExceptions" "Ljava/util/List;") ∈ wG := List.mem_filter.mpr ⟨List.mem_append_right _ (List.mem_of_getElem? (i := 205) (by decide +kernel)), by decide +kernel⟩
theorem kw_210 : (Jvm.Cond.lays "java/lang/IndexOutOfBoundsException" "java/lang/Throwable" "depth" "I") ∈ wG := List.mem_filter.mpr ⟨List.mem_append_right _ (List.mem_of_getElem? (i := 210) (by decide +kernel)), by decide +kernel⟩
theorem kw_214 : (Jvm.Cond.arrayClass Jvm.ClassFile.FieldType.byte) ∈ wG := List.mem_filter.mpr ⟨List.mem_append_right _ (List.mem_of_getElem? (i := 214) (by decide +kernel)), by decide +kernel⟩
theorem kw_215 : (Jvm.Cond.methodLink "Takinghall" (50 : Nat) ({ cls := "Takinghall", name := "isWithin", desc := "(III)Z" } : Jvm.MethodName)) ∈ wG := List.mem_filter.mpr ⟨List.mem_append_right _ (List.mem_of_getElem? (i := 215) (by decide +kernel)), by decide +kernel⟩
theorem kw_216 : (Jvm.Cond.static ({ cls := "Takinghall", name := "isWithin", desc := "(III)Z" } : Jvm.MethodName)) ∈ wG := List.mem_filter.mpr ⟨List.mem_append_right _ (List.mem_of_getElem? (i := 216) (by decide +kernel)), by decide +kernel⟩
theorem kw_217 : (Jvm.Cond.code ({ cls := "Takinghall", name := "isWithin", desc := "(III)Z" } : Jvm.MethodName) prog_1_method_33_code (3 : Nat) (Option.some Jvm.ClassFile.FieldType.boolean)) ∈ wG := List.mem_filter.mpr ⟨List.mem_append_right _ (List.mem_of_getElem? (i := 217) (by decide +kernel)), by decide +kernel⟩
theorem kw_218 : (Jvm.Cond.methodLink "Takinghall" (54 : Nat) ({ cls := "Takinghall", name := "isUse", desc := "(I)Z" } : Jvm.MethodName)) ∈ wG := List.mem_filter.mpr ⟨List.mem_append_right _ (List.mem_of_getElem? (i := 218) (by decide +kernel)), by decide +kernel⟩
theorem kw_219 : (Jvm.Cond.static ({ cls := "Takinghall", name := "isUse", desc := "(I)Z" } : Jvm.MethodName)) ∈ wG := List.mem_filter.mpr ⟨List.mem_append_right _ (List.mem_of_getElem? (i := 219) (by decide +kernel)), by decide +kernel⟩
theorem kw_220 : (Jvm.Cond.code ({ cls := "Takinghall", name := "isUse", desc := "(I)Z" } : Jvm.MethodName) prog_1_method_34_code (1 : Nat) (Option.some Jvm.ClassFile.FieldType.boolean)) ∈ wG := List.mem_filter.mpr ⟨List.mem_append_right _ (List.mem_of_getElem? (i := 220) (by decide +kernel)), by decide +kernel⟩
theorem kw_221 : (Jvm.Cond.classLink "Takinghall" (58 : Nat) "java/lang/IllegalArgumentException") ∈ wG := List.mem_filter.mpr ⟨List.mem_append_right _ (List.mem_of_getElem? (i := 221) (by decide +kernel)), by decide +kernel⟩
theorem kw_222 : (Jvm.Cond.instantiable "java/lang/IllegalArgumentException" (6 : Nat)) ∈ wG := List.mem_filter.mpr ⟨List.mem_append_right _ (List.mem_of_getElem? (i := 222) (by decide +kernel)), by decide +kernel⟩
theorem kw_224 : (Jvm.Cond.selects "java/lang/IllegalArgumentException" ({ cls := "java/lang/Throwable", name := "fillInStackTrace", desc := "(I)Ljava/lang/Throwable;" } : Jvm.MethodName) ({ cls := "java/lang/Throwable", name := "fillInStackTrace", desc := "(I)Ljava/lang/Throwable;" } : Jvm.MethodName)) ∈ wG := List.mem_filter.mpr ⟨List.mem_append_right _ (List.mem_of_getElem? (i := 224) (by decide +kernel)), by decide +kernel⟩
theorem kw_225 : (Jvm.Cond.lays "java/lang/IllegalArgumentException" "java/lang/Throwable" "cause" "Ljava/lang/Throwable;") ∈ wG := List.mem_filter.mpr ⟨List.mem_append_right _ (List.mem_of_getElem? (i := 225) (by decide +kernel)), by decide +kernel⟩
theorem kw_226 : (Jvm.Cond.lays "java/lang/IllegalArgumentException" "java/lang/Throwable" "stackTrace" "[Ljava/lang/StackTraceElement;") ∈ wG := List.mem_filter.mpr ⟨List.mem_append_right _ (List.mem_of_getElem? (i := 226) (by decide +kernel)), by decide +kernel⟩
theorem kw_227 : (Jvm.Cond.lays "java/lang/IllegalArgumentException" "java/lang/Throwable" "suppressedExceptions" "Ljava/util/List;") ∈ wG := List.mem_filter.mpr ⟨List.mem_append_right _ (List.mem_of_getElem? (i := 227) (by decide +kernel)), by decide +kernel⟩
theorem kw_228 : (Jvm.Cond.lays "java/lang/IllegalArgumentException" "java/lang/Throwable" "detailMessage" "Ljava/lang/String;") ∈ wG := List.mem_filter.mpr ⟨List.mem_append_right _ (List.mem_of_getElem? (i := 228) (by decide +kernel)), by decide +kernel⟩
theorem kw_229 : (Jvm.Cond.lays "java/lang/IllegalArgumentException" "java/lang/Throwable" "backtrace" "Ljava/lang/Object;") ∈ wG := List.mem_filter.mpr ⟨List.mem_append_right _ (List.mem_of_getElem? (i := 229) (by decide +kernel)), by decide +kernel⟩
theorem kw_231 : (Jvm.Cond.methodLink "Takinghall" (62 : Nat) ({ cls := "java/lang/IllegalArgumentException", name := "<init>", desc := "(Ljava/lang/String;)V" } : Jvm.MethodName)) ∈ wG := List.mem_filter.mpr ⟨List.mem_append_right _ (List.mem_of_getElem? (i := 231) (by decide +kernel)), by decide +kernel⟩
theorem kw_232 : (Jvm.Cond.instanceMethod ({ cls := "java/lang/IllegalArgumentException", name := "<init>", desc := "(Ljava/lang/String;)V" } : Jvm.MethodName)) ∈ wG := List.mem_filter.mpr ⟨List.mem_append_right _ (List.mem_of_getElem? (i := 232) (by decide +kernel)), by decide +kernel⟩
theorem kw_233 : (Jvm.Cond.code ({ cls := "java/lang/IllegalArgumentException", name := "<init>", desc := "(Ljava/lang/String;)V" } : Jvm.MethodName) prog_9_method_2_code (2 : Nat) (Option.none : Option Jvm.ClassFile.FieldType)) ∈ wG := List.mem_filter.mpr ⟨List.mem_append_right _ (List.mem_of_getElem? (i := 233) (by decide +kernel)), by decide +kernel⟩
theorem kw_234 : (Jvm.Cond.methodLink "java/lang/IllegalArgumentException" (7 : Nat) ({ cls := "java/lang/RuntimeException", name := "<init>", desc := "(Ljava/lang/String;)V" } : Jvm.MethodName)) ∈ wG := List.mem_filter.mpr ⟨List.mem_append_right _ (List.mem_of_getElem? (i := 234) (by decide +kernel)), by decide +kernel⟩
theorem kw_235 : (Jvm.Cond.lays "java/lang/IllegalArgumentException" "java/lang/Throwable" "depth" "I") ∈ wG := List.mem_filter.mpr ⟨List.mem_append_right _ (List.mem_of_getElem? (i := 235) (by decide +kernel)), by decide +kernel⟩
theorem kw_237 : (Jvm.Cond.methodLink "Takinghall" (67 : Nat) ({ cls := "Takinghall", name := "isNeeded", desc := "(LTakinghall$Plot;)Z" } : Jvm.MethodName)) ∈ wG := List.mem_filter.mpr ⟨List.mem_append_right _ (List.mem_of_getElem? (i := 237) (by decide +kernel)), by decide +kernel⟩
theorem kw_238 : (Jvm.Cond.static ({ cls := "Takinghall", name := "isNeeded", desc := "(LTakinghall$Plot;)Z" } : Jvm.MethodName)) ∈ wG := List.mem_filter.mpr ⟨List.mem_append_right _ (List.mem_of_getElem? (i := 238) (by decide +kernel)), by decide +kernel⟩
theorem kw_239 : (Jvm.Cond.code ({ cls := "Takinghall", name := "isNeeded", desc := "(LTakinghall$Plot;)Z" } : Jvm.MethodName) prog_1_method_49_code (1 : Nat) (Option.some Jvm.ClassFile.FieldType.boolean)) ∈ wG := List.mem_filter.mpr ⟨List.mem_append_right _ (List.mem_of_getElem? (i := 239) (by decide +kernel)), by decide +kernel⟩
theorem kw_240 : (Jvm.Cond.methodLink "Takinghall" (115 : Nat) ({ cls := "Takinghall", name := "neederOf", desc := "(LTakinghall$Plot;)LTakinghall$Scheme;" } : Jvm.MethodName)) ∈ wG := List.mem_filter.mpr ⟨List.mem_append_right _ (List.mem_of_getElem? (i := 240) (by decide +kernel)), by decide +kernel⟩
theorem kw_241 : (Jvm.Cond.static ({ cls := "Takinghall", name := "neederOf", desc := "(LTakinghall$Plot;)LTakinghall$Scheme;" } : Jvm.MethodName)) ∈ wG := List.mem_filter.mpr ⟨List.mem_append_right _ (List.mem_of_getElem? (i := 241) (by decide +kernel)), by decide +kernel⟩
theorem kw_242 : (Jvm.Cond.code ({ cls := "Takinghall", name := "neederOf", desc := "(LTakinghall$Plot;)LTakinghall$Scheme;" } : Jvm.MethodName) prog_1_method_48_code (2 : Nat) (Option.some (Jvm.ClassFile.FieldType.object "Takinghall$Scheme"))) ∈ wG := List.mem_filter.mpr ⟨List.mem_append_right _ (List.mem_of_getElem? (i := 242) (by decide +kernel)), by decide +kernel⟩
theorem kw_243 : (Jvm.Cond.classLink "Takinghall" (71 : Nat) "java/lang/IllegalStateException") ∈ wG := List.mem_filter.mpr ⟨List.mem_append_right _ (List.mem_of_getElem? (i := 243) (by decide +kernel)), by decide +kernel⟩
theorem kw_244 : (Jvm.Cond.instantiable "java/lang/IllegalStateException" (6 : Nat)) ∈ wG := List.mem_filter.mpr ⟨List.mem_append_right _ (List.mem_of_getElem? (i := 244) (by decide +kernel)), by decide +kernel⟩
theorem kw_246 : (Jvm.Cond.selects "java/lang/IllegalStateException" ({ cls := "java/lang/Throwable", name := "fillInStackTrace", desc := "(I)Ljava/lang/Throwable;" } : Jvm.MethodName) ({ cls := "java/lang/Throwable", name := "fillInStackTrace", desc := "(I)Ljava/lang/Throwable;" } : Jvm.MethodName)) ∈ wG := List.mem_filter.mpr ⟨List.mem_append_right _ (List.mem_of_getElem? (i := 246) (by decide +kernel)), by decide +kernel⟩
theorem kw_247 : (Jvm.Cond.lays "java/lang/IllegalStateException" "java/lang/Throwable" "cause" "Ljava/lang/Throwable;") ∈ wG := List.mem_filter.mpr ⟨List.mem_append_right _ (List.mem_of_getElem? (i := 247) (by decide +kernel)), by decide +kernel⟩
theorem kw_248 : (Jvm.Cond.lays "java/lang/IllegalStateException" "java/lang/Throwable" "stackTrace" "[Ljava/lang/StackTraceElement;") ∈ wG := List.mem_filter.mpr ⟨List.mem_append_right _ (List.mem_of_getElem? (i := 248) (by decide +kernel)), by decide +kernel⟩
theorem kw_249 : (Jvm.Cond.lays "java/lang/IllegalStateException" "java/lang/Throwable" "suppressedExceptions" "Ljava/util/List;") ∈ wG := List.mem_filter.mpr ⟨List.mem_append_right _ (List.mem_of_getElem? (i := 249) (by decide +kernel)), by decide +kernel⟩
theorem kw_250 : (Jvm.Cond.lays "java/lang/IllegalStateException" "java/lang/Throwable" "detailMessage" "Ljava/lang/String;") ∈ wG := List.mem_filter.mpr ⟨List.mem_append_right _ (List.mem_of_getElem? (i := 250) (by decide +kernel)), by decide +kernel⟩
theorem kw_251 : (Jvm.Cond.lays "java/lang/IllegalStateException" "java/lang/Throwable" "backtrace" "Ljava/lang/Object;") ∈ wG := List.mem_filter.mpr ⟨List.mem_append_right _ (List.mem_of_getElem? (i := 251) (by decide +kernel)), by decide +kernel⟩
theorem kw_253 : (Jvm.Cond.methodLink "Takinghall" (75 : Nat) ({ cls := "java/lang/IllegalStateException", name := "<init>", desc := "(Ljava/lang/String;)V" } : Jvm.MethodName)) ∈ wG := List.mem_filter.mpr ⟨List.mem_append_right _ (List.mem_of_getElem? (i := 253) (by decide +kernel)), by decide +kernel⟩
theorem kw_254 : (Jvm.Cond.instanceMethod ({ cls := "java/lang/IllegalStateException", name := "<init>", desc := "(Ljava/lang/String;)V" } : Jvm.MethodName)) ∈ wG := List.mem_filter.mpr ⟨List.mem_append_right _ (List.mem_of_getElem? (i := 254) (by decide +kernel)), by decide +kernel⟩
theorem kw_255 : (Jvm.Cond.code ({ cls := "java/lang/IllegalStateException", name := "<init>", desc := "(Ljava/lang/String;)V" } : Jvm.MethodName) prog_10_method_2_code (2 : Nat) (Option.none : Option Jvm.ClassFile.FieldType)) ∈ wG := List.mem_filter.mpr ⟨List.mem_append_right _ (List.mem_of_getElem? (i := 255) (by decide +kernel)), by decide +kernel⟩
theorem kw_256 : (Jvm.Cond.methodLink "java/lang/IllegalStateException" (7 : Nat) ({ cls := "java/lang/RuntimeException", name := "<init>", desc := "(Ljava/lang/String;)V" } : Jvm.MethodName)) ∈ wG := List.mem_filter.mpr ⟨List.mem_append_right _ (List.mem_of_getElem? (i := 256) (by decide +kernel)), by decide +kernel⟩
theorem kw_257 : (Jvm.Cond.lays "java/lang/IllegalStateException" "java/lang/Throwable" "depth" "I") ∈ wG := List.mem_filter.mpr ⟨List.mem_append_right _ (List.mem_of_getElem? (i := 257) (by decide +kernel)), by decide +kernel⟩
theorem kw_259 : (Jvm.Cond.methodLink "TakinghallLaw" (126 : Nat) ({ cls := "TakinghallLaw", name := "price", desc := "(LTakinghall;II[J)I" } : Jvm.MethodName)) ∈ wG := List.mem_filter.mpr ⟨List.mem_append_right _ (List.mem_of_getElem? (i := 259) (by decide +kernel)), by decide +kernel⟩
theorem kw_260 : (Jvm.Cond.static ({ cls := "TakinghallLaw", name := "price", desc := "(LTakinghall;II[J)I" } : Jvm.MethodName)) ∈ wG := List.mem_filter.mpr ⟨List.mem_append_right _ (List.mem_of_getElem? (i := 260) (by decide +kernel)), by decide +kernel⟩
theorem kw_261 : (Jvm.Cond.codeWith ({ cls := "TakinghallLaw", name := "price", desc := "(LTakinghall;II[J)I" } : Jvm.MethodName) method_4_code (5 : Nat) (Option.some Jvm.ClassFile.FieldType.int) [((0 : Nat), (10 : Nat), (13 : Nat), (15 : Nat))]) ∈ wG := List.mem_filter.mpr ⟨List.mem_append_right _ (List.mem_of_getElem? (i := 261) (by decide +kernel)), by decide +kernel⟩
theorem kw_262 : (Jvm.Cond.methodLink "TakinghallLaw" (19 : Nat) ({ cls := "Takinghall", name := "price", desc := "(II)I" } : Jvm.MethodName)) ∈ wG := List.mem_filter.mpr ⟨List.mem_append_right _ (List.mem_of_getElem? (i := 262) (by decide +kernel)), by decide +kernel⟩
theorem kw_263 : (Jvm.Cond.instanceMethod ({ cls := "Takinghall", name := "price", desc := "(II)I" } : Jvm.MethodName)) ∈ wG := List.mem_filter.mpr ⟨List.mem_append_right _ (List.mem_of_getElem? (i := 263) (by decide +kernel)), by decide +kernel⟩
theorem kw_264 : (Jvm.Cond.selects "Takinghall" ({ cls := "Takinghall", name := "price", desc := "(II)I" } : Jvm.MethodName) ({ cls := "Takinghall", name := "price", desc := "(II)I" } : Jvm.MethodName)) ∈ wG := List.mem_filter.mpr ⟨List.mem_append_right _ (List.mem_of_getElem? (i := 264) (by decide +kernel)), by decide +kernel⟩
theorem kw_265 : (Jvm.Cond.code ({ cls := "Takinghall", name := "price", desc := "(II)I" } : Jvm.MethodName) prog_1_method_3_code (4 : Nat) (Option.some Jvm.ClassFile.FieldType.int)) ∈ wG := List.mem_filter.mpr ⟨List.mem_append_right _ (List.mem_of_getElem? (i := 265) (by decide +kernel)), by decide +kernel⟩
theorem kw_267 : (Jvm.Cond.methodLink "Takinghall" (87 : Nat) ({ cls := "Takinghall", name := "priceOn", desc := "(II)LTakinghall$Price;" } : Jvm.MethodName)) ∈ wG := List.mem_filter.mpr ⟨List.mem_append_right _ (List.mem_of_getElem? (i := 267) (by decide +kernel)), by decide +kernel⟩
theorem kw_269 : (Jvm.Cond.instanceMethod ({ cls := "Takinghall", name := "priceOn", desc := "(II)LTakinghall$Price;" } : Jvm.MethodName)) ∈ wG := List.mem_filter.mpr ⟨List.mem_append_right _ (List.mem_of_getElem? (i := 269) (by decide +kernel)), by decide +kernel⟩
theorem kw_270 : (Jvm.Cond.code ({ cls := "Takinghall", name := "priceOn", desc := "(II)LTakinghall$Price;" } : Jvm.MethodName) prog_1_method_43_code (4 : Nat) (Option.some (Jvm.ClassFile.FieldType.object "Takinghall$Price"))) ∈ wG := List.mem_filter.mpr ⟨List.mem_append_right _ (List.mem_of_getElem? (i := 270) (by decide +kernel)), by decide +kernel⟩
theorem kw_271 : (Jvm.Cond.methodLink "Takinghall" (91 : Nat) ({ cls := "Takinghall", name := "centsOf", desc := "(LTakinghall$Price;)I" } : Jvm.MethodName)) ∈ wG := List.mem_filter.mpr ⟨List.mem_append_right _ (List.mem_of_getElem? (i := 271) (by decide +kernel)), by decide +kernel⟩
theorem kw_272 : (Jvm.Cond.static ({ cls := "Takinghall", name := "centsOf", desc := "(LTakinghall$Price;)I" } : Jvm.MethodName)) ∈ wG := List.mem_filter.mpr ⟨List.mem_append_right _ (List.mem_of_getElem? (i := 272) (by decide +kernel)), by decide +kernel⟩
theorem kw_273 : (Jvm.Cond.code ({ cls := "Takinghall", name := "centsOf", desc := "(LTakinghall$Price;)I" } : Jvm.MethodName) prog_1_method_44_code (1 : Nat) (Option.some Jvm.ClassFile.FieldType.int)) ∈ wG := List.mem_filter.mpr ⟨List.mem_append_right _ (List.mem_of_getElem? (i := 273) (by decide +kernel)), by decide +kernel⟩
theorem kw_274 : (Jvm.Cond.methodLink "TakinghallLaw" (130 : Nat) ({ cls := "TakinghallLaw", name := "worth", desc := "(LTakinghall;II[J)I" } : Jvm.MethodName)) ∈ wG := List.mem_filter.mpr ⟨List.mem_append_right _ (List.mem_of_getElem? (i := 274) (by decide +kernel)), by decide +kernel⟩
theorem kw_275 : (Jvm.Cond.static ({ cls := "TakinghallLaw", name := "worth", desc := "(LTakinghall;II[J)I" } : Jvm.MethodName)) ∈ wG := List.mem_filter.mpr ⟨List.mem_append_right _ (List.mem_of_getElem? (i := 275) (by decide +kernel)), by decide +kernel⟩
theorem kw_276 : (Jvm.Cond.codeWith ({ cls := "TakinghallLaw", name := "worth", desc := "(LTakinghall;II[J)I" } : Jvm.MethodName) method_5_code (5 : Nat) (Option.some Jvm.ClassFile.FieldType.int) [((0 : Nat), (10 : Nat), (13 : Nat), (13 : Nat)), ((0 : Nat), (10 : Nat), (17 : Nat), (15 : Nat))]) ∈ wG := List.mem_filter.mpr ⟨List.mem_append_right _ (List.mem_of_getElem? (i := 276) (by decide +kernel)), by decide +kernel⟩
theorem kw_277 : (Jvm.Cond.methodLink "TakinghallLaw" (23 : Nat) ({ cls := "Takinghall", name := "worth", desc := "(II)I" } : Jvm.MethodName)) ∈ wG := List.mem_filter.mpr ⟨List.mem_append_right _ (List.mem_of_getElem? (i := 277) (by decide +kernel)), by decide +kernel⟩
theorem kw_278 : (Jvm.Cond.instanceMethod ({ cls := "Takinghall", name := "worth", desc := "(II)I" } : Jvm.MethodName)) ∈ wG := List.mem_filter.mpr ⟨List.mem_append_right _ (List.mem_of_getElem? (i := 278) (by decide +kernel)), by decide +kernel⟩
theorem kw_279 : (Jvm.Cond.selects "Takinghall" ({ cls := "Takinghall", name := "worth", desc := "(II)I" } : Jvm.MethodName) ({ cls := "Takinghall", name := "worth", desc := "(II)I" } : Jvm.MethodName)) ∈ wG := List.mem_filter.mpr ⟨List.mem_append_right _ (List.mem_of_getElem? (i := 279) (by decide +kernel)), by decide +kernel⟩
theorem kw_280 : (Jvm.Cond.code ({ cls := "Takinghall", name := "worth", desc := "(II)I" } : Jvm.MethodName) prog_1_method_4_code (4 : Nat) (Option.some Jvm.ClassFile.FieldType.int)) ∈ wG := List.mem_filter.mpr ⟨List.mem_append_right _ (List.mem_of_getElem? (i := 280) (by decide +kernel)), by decide +kernel⟩
theorem kw_282 : (Jvm.Cond.methodLink "Takinghall" (97 : Nat) ({ cls := "Takinghall", name := "worthBy", desc := "(LTakinghall$Plot;LTakinghall$Price;)I" } : Jvm.MethodName)) ∈ wG := List.mem_filter.mpr ⟨List.mem_append_right _ (List.mem_of_getElem? (i := 282) (by decide +kernel)), by decide +kernel⟩
theorem kw_283 : (Jvm.Cond.static ({ cls := "Takinghall", name := "worthBy", desc := "(LTakinghall$Plot;LTakinghall$Price;)I" } : Jvm.MethodName)) ∈ wG := List.mem_filter.mpr ⟨List.mem_append_right _ (List.mem_of_getElem? (i := 283) (by decide +kernel)), by decide +kernel⟩
theorem kw_284 : (Jvm.Cond.code ({ cls := "Takinghall", name := "worthBy", desc := "(LTakinghall$Plot;LTakinghall$Price;)I" } : Jvm.MethodName) prog_1_method_45_code (2 : Nat) (Option.some Jvm.ClassFile.FieldType.int)) ∈ wG := List.mem_filter.mpr ⟨List.mem_append_right _ (List.mem_of_getElem? (i := 284) (by decide +kernel)), by decide +kernel⟩
theorem kw_285 : (Jvm.Cond.methodLink "TakinghallLaw" (133 : Nat) ({ cls := "TakinghallLaw", name := "market", desc := "(LTakinghall;I[J)I" } : Jvm.MethodName)) ∈ wG := List.mem_filter.mpr ⟨List.mem_append_right _ (List.mem_of_getElem? (i := 285) (by decide +kernel)), by decide +kernel⟩
theorem kw_286 : (Jvm.Cond.static ({ cls := "TakinghallLaw", name := "market", desc := "(LTakinghall;I[J)I" } : Jvm.MethodName)) ∈ wG := List.mem_filter.mpr ⟨List.mem_append_right _ (List.mem_of_getElem? (i := 286) (by decide +kernel)), by decide +kernel⟩
theorem kw_287 : (Jvm.Cond.codeWith ({ cls := "TakinghallLaw", name := "market", desc := "(LTakinghall;I[J)I" } : Jvm.MethodName) method_6_code (4 : Nat) (Option.some Jvm.ClassFile.FieldType.int) [((0 : Nat), (9 : Nat), (12 : Nat), (13 : Nat))]) ∈ wG := List.mem_filter.mpr ⟨List.mem_append_right _ (List.mem_of_getElem? (i := 287) (by decide +kernel)), by decide +kernel⟩
theorem kw_288 : (Jvm.Cond.methodLink "TakinghallLaw" (26 : Nat) ({ cls := "Takinghall", name := "market", desc := "(I)I" } : Jvm.MethodName)) ∈ wG := List.mem_filter.mpr ⟨List.mem_append_right _ (List.mem_of_getElem? (i := 288) (by decide +kernel)), by decide +kernel⟩
theorem kw_289 : (Jvm.Cond.instanceMethod ({ cls := "Takinghall", name := "market", desc := "(I)I" } : Jvm.MethodName)) ∈ wG := List.mem_filter.mpr ⟨List.mem_append_right _ (List.mem_of_getElem? (i := 289) (by decide +kernel)), by decide +kernel⟩
theorem kw_290 : (Jvm.Cond.selects "Takinghall" ({ cls := "Takinghall", name := "market", desc := "(I)I" } : Jvm.MethodName) ({ cls := "Takinghall", name := "market", desc := "(I)I" } : Jvm.MethodName)) ∈ wG := List.mem_filter.mpr ⟨List.mem_append_right _ (List.mem_of_getElem? (i := 290) (by decide +kernel)), by decide +kernel⟩
theorem kw_291 : (Jvm.Cond.code ({ cls := "Takinghall", name := "market", desc := "(I)I" } : Jvm.MethodName) prog_1_method_5_code (4 : Nat) (Option.some Jvm.ClassFile.FieldType.int)) ∈ wG := List.mem_filter.mpr ⟨List.mem_append_right _ (List.mem_of_getElem? (i := 291) (by decide +kernel)), by decide +kernel⟩
theorem kw_292 : (Jvm.Cond.methodLink "Takinghall" (101 : Nat) ({ cls := "Takinghall", name := "worthToday", desc := "(LTakinghall$Plot;)I" } : Jvm.MethodName)) ∈ wG := List.mem_filter.mpr ⟨List.mem_append_right _ (List.mem_of_getElem? (i := 292) (by decide +kernel)), by decide +kernel⟩
theorem kw_294 : (Jvm.Cond.instanceMethod ({ cls := "Takinghall", name := "worthToday", desc := "(LTakinghall$Plot;)I" } : Jvm.MethodName)) ∈ wG := List.mem_filter.mpr ⟨List.mem_append_right _ (List.mem_of_getElem? (i := 294) (by decide +kernel)), by decide +kernel⟩
theorem kw_295 : (Jvm.Cond.code ({ cls := "Takinghall", name := "worthToday", desc := "(LTakinghall$Plot;)I" } : Jvm.MethodName) prog_1_method_46_code (2 : Nat) (Option.some Jvm.ClassFile.FieldType.int)) ∈ wG := List.mem_filter.mpr ⟨List.mem_append_right _ (List.mem_of_getElem? (i := 295) (by decide +kernel)), by decide +kernel⟩
theorem kw_296 : (Jvm.Cond.methodLink "Takinghall" (105 : Nat) ({ cls := "Takinghall", name := "hundredths", desc := "(II)I" } : Jvm.MethodName)) ∈ wG := List.mem_filter.mpr ⟨List.mem_append_right _ (List.mem_of_getElem? (i := 296) (by decide +kernel)), by decide +kernel⟩
theorem kw_297 : (Jvm.Cond.static ({ cls := "Takinghall", name := "hundredths", desc := "(II)I" } : Jvm.MethodName)) ∈ wG := List.mem_filter.mpr ⟨List.mem_append_right _ (List.mem_of_getElem? (i := 297) (by decide +kernel)), by decide +kernel⟩
theorem kw_298 : (Jvm.Cond.code ({ cls := "Takinghall", name := "hundredths", desc := "(II)I" } : Jvm.MethodName) prog_1_method_36_code (2 : Nat) (Option.some Jvm.ClassFile.FieldType.int)) ∈ wG := List.mem_filter.mpr ⟨List.mem_append_right _ (List.mem_of_getElem? (i := 298) (by decide +kernel)), by decide +kernel⟩
theorem kw_299 : (Jvm.Cond.methodLink "Takinghall" (112 : Nat) ({ cls := "Takinghall", name := "isBesideNeeded", desc := "(I)Z" } : Jvm.MethodName)) ∈ wG := List.mem_filter.mpr ⟨List.mem_append_right _ (List.mem_of_getElem? (i := 299) (by decide +kernel)), by decide +kernel⟩
theorem kw_301 : (Jvm.Cond.instanceMethod ({ cls := "Takinghall", name := "isBesideNeeded", desc := "(I)Z" } : Jvm.MethodName)) ∈ wG := List.mem_filter.mpr ⟨List.mem_append_right _ (List.mem_of_getElem? (i := 301) (by decide +kernel)), by decide +kernel⟩
theorem kw_302 : (Jvm.Cond.code ({ cls := "Takinghall", name := "isBesideNeeded", desc := "(I)Z" } : Jvm.MethodName) prog_1_method_47_code (3 : Nat) (Option.some Jvm.ClassFile.FieldType.boolean)) ∈ wG := List.mem_filter.mpr ⟨List.mem_append_right _ (List.mem_of_getElem? (i := 302) (by decide +kernel)), by decide +kernel⟩
theorem kw_303 : (Jvm.Cond.methodLink "TakinghallLaw" (137 : Nat) ({ cls := "TakinghallLaw", name := "plotOf", desc := "(LTakinghall;II[J)I" } : Jvm.MethodName)) ∈ wG := List.mem_filter.mpr ⟨List.mem_append_right _ (List.mem_of_getElem? (i := 303) (by decide +kernel)), by decide +kernel⟩
theorem kw_304 : (Jvm.Cond.static ({ cls := "TakinghallLaw", name := "plotOf", desc := "(LTakinghall;II[J)I" } : Jvm.MethodName)) ∈ wG := List.mem_filter.mpr ⟨List.mem_append_right _ (List.mem_of_getElem? (i := 304) (by decide +kernel)), by decide +kernel⟩
theorem kw_305 : (Jvm.Cond.codeWith ({ cls := "TakinghallLaw", name := "plotOf", desc := "(LTakinghall;II[J)I" } : Jvm.MethodName) method_7_code (5 : Nat) (Option.some Jvm.ClassFile.FieldType.int) [((0 : Nat), (10 : Nat), (13 : Nat), (13 : Nat)), ((0 : Nat), (10 : Nat), (17 : Nat), (15 : Nat))]) ∈ wG := List.mem_filter.mpr ⟨List.mem_append_right _ (List.mem_of_getElem? (i := 305) (by decide +kernel)), by decide +kernel⟩
theorem kw_306 : (Jvm.Cond.methodLink "TakinghallLaw" (30 : Nat) ({ cls := "Takinghall", name := "plotOf", desc := "(II)I" } : Jvm.MethodName)) ∈ wG := List.mem_filter.mpr ⟨List.mem_append_right _ (List.mem_of_getElem? (i := 306) (by decide +kernel)), by decide +kernel⟩
theorem kw_307 : (Jvm.Cond.instanceMethod ({ cls := "Takinghall", name := "plotOf", desc := "(II)I" } : Jvm.MethodName)) ∈ wG := List.mem_filter.mpr ⟨List.mem_append_right _ (List.mem_of_getElem? (i := 307) (by decide +kernel)), by decide +kernel⟩
theorem kw_308 : (Jvm.Cond.selects "Takinghall" ({ cls := "Takinghall", name := "plotOf", desc := "(II)I" } : Jvm.MethodName) ({ cls := "Takinghall", name := "plotOf", desc := "(II)I" } : Jvm.MethodName)) ∈ wG := List.mem_filter.mpr ⟨List.mem_append_right _ (List.mem_of_getElem? (i := 308) (by decide +kernel)), by decide +kernel⟩
theorem kw_309 : (Jvm.Cond.code ({ cls := "Takinghall", name := "plotOf", desc := "(II)I" } : Jvm.MethodName) prog_1_method_6_code (4 : Nat) (Option.some Jvm.ClassFile.FieldType.int)) ∈ wG := List.mem_filter.mpr ⟨List.mem_append_right _ (List.mem_of_getElem? (i := 309) (by decide +kernel)), by decide +kernel⟩
theorem kw_310 : (Jvm.Cond.methodLink "Takinghall" (119 : Nat) ({ cls := "Takinghall", name := "numberOf", desc := "(LTakinghall$Scheme;)I" } : Jvm.MethodName)) ∈ wG := List.mem_filter.mpr ⟨List.mem_append_right _ (List.mem_of_getElem? (i := 310) (by decide +kernel)), by decide +kernel⟩
theorem kw_311 : (Jvm.Cond.static ({ cls := "Takinghall", name := "numberOf", desc := "(LTakinghall$Scheme;)I" } : Jvm.MethodName)) ∈ wG := List.mem_filter.mpr ⟨List.mem_append_right _ (List.mem_of_getElem? (i := 311) (by decide +kernel)), by decide +kernel⟩
theorem kw_312 : (Jvm.Cond.code ({ cls := "Takinghall", name := "numberOf", desc := "(LTakinghall$Scheme;)I" } : Jvm.MethodName) prog_1_method_42_code (1 : Nat) (Option.some Jvm.ClassFile.FieldType.int)) ∈ wG := List.mem_filter.mpr ⟨List.mem_append_right _ (List.mem_of_getElem? (i := 312) (by decide +kernel)), by decide +kernel⟩
theorem kw_313 : (Jvm.Cond.methodLink "Takinghall" (137 : Nat) ({ cls := "Takinghall", name := "numberOf", desc := "(LTakinghall$Interest;)I" } : Jvm.MethodName)) ∈ wG := List.mem_filter.mpr ⟨List.mem_append_right _ (List.mem_of_getElem? (i := 313) (by decide +kernel)), by decide +kernel⟩
theorem kw_314 : (Jvm.Cond.static ({ cls := "Takinghall", name := "numberOf", desc := "(LTakinghall$Interest;)I" } : Jvm.MethodName)) ∈ wG := List.mem_filter.mpr ⟨List.mem_append_right _ (List.mem_of_getElem? (i := 314) (by decide +kernel)), by decide +kernel⟩
theorem kw_315 : (Jvm.Cond.code ({ cls := "Takinghall", name := "numberOf", desc := "(LTakinghall$Interest;)I" } : Jvm.MethodName) prog_1_method_41_code (1 : Nat) (Option.some Jvm.ClassFile.FieldType.int)) ∈ wG := List.mem_filter.mpr ⟨List.mem_append_right _ (List.mem_of_getElem? (i := 315) (by decide +kernel)), by decide +kernel⟩
theorem kw_317 : (Jvm.Cond.methodLink "TakinghallLaw" (140 : Nat) ({ cls := "TakinghallLaw", name := "own", desc := "(LTakinghall;III[J)I" } : Jvm.MethodName)) ∈ wG := List.mem_filter.mpr ⟨List.mem_append_right _ (List.mem_of_getElem? (i := 317) (by decide +kernel)), by decide +kernel⟩
theorem kw_318 : (Jvm.Cond.static ({ cls := "TakinghallLaw", name := "own", desc := "(LTakinghall;III[J)I" } : Jvm.MethodName)) ∈ wG := List.mem_filter.mpr ⟨List.mem_append_right _ (List.mem_of_getElem? (i := 318) (by decide +kernel)), by decide +kernel⟩
theorem kw_319 : (Jvm.Cond.codeWith ({ cls := "TakinghallLaw", name := "own", desc := "(LTakinghall;III[J)I" } : Jvm.MethodName) method_8_code (6 : Nat) (Option.some Jvm.ClassFile.FieldType.int) [((0 : Nat), (12 : Nat), (15 : Nat), (13 : Nat)), ((0 : Nat), (12 : Nat), (19 : Nat), (15 : Nat)), ((0 : Nat), (12 : Nat), (23 : Nat), (17 : Nat))]) ∈ wG := List.mem_filter.mpr ⟨List.mem_append_right _ (List.mem_of_getElem? (i := 319) (by decide +kernel)), by decide +kernel⟩
theorem kw_320 : (Jvm.Cond.methodLink "TakinghallLaw" (33 : Nat) ({ cls := "Takinghall", name := "own", desc := "(III)I" } : Jvm.MethodName)) ∈ wG := List.mem_filter.mpr ⟨List.mem_append_right _ (List.mem_of_getElem? (i := 320) (by decide +kernel)), by decide +kernel⟩
theorem kw_321 : (Jvm.Cond.instanceMethod ({ cls := "Takinghall", name := "own", desc := "(III)I" } : Jvm.MethodName)) ∈ wG := List.mem_filter.mpr ⟨List.mem_append_right _ (List.mem_of_getElem? (i := 321) (by decide +kernel)), by decide +kernel⟩
theorem kw_322 : (Jvm.Cond.selects "Takinghall" ({ cls := "Takinghall", name := "own", desc := "(III)I" } : Jvm.MethodName) ({ cls := "Takinghall", name := "own", desc := "(III)I" } : Jvm.MethodName)) ∈ wG := List.mem_filter.mpr ⟨List.mem_append_right _ (List.mem_of_getElem? (i := 322) (by decide +kernel)), by decide +kernel⟩
theorem kw_323 : (Jvm.Cond.code ({ cls := "Takinghall", name := "own", desc := "(III)I" } : Jvm.MethodName) prog_1_method_7_code (5 : Nat) (Option.some Jvm.ClassFile.FieldType.int)) ∈ wG := List.mem_filter.mpr ⟨List.mem_append_right _ (List.mem_of_getElem? (i := 323) (by decide +kernel)), by decide +kernel⟩
theorem kw_324 : (Jvm.Cond.methodLink "Takinghall" (145 : Nat) ({ cls := "Takinghall", name := "isPerson", desc := "(I)Z" } : Jvm.MethodName)) ∈ wG := List.mem_filter.mpr ⟨List.mem_append_right _ (List.mem_of_getElem? (i := 324) (by decide +kernel)), by decide +kernel⟩
theorem kw_325 : (Jvm.Cond.static ({ cls := "Takinghall", name := "isPerson", desc := "(I)Z" } : Jvm.MethodName)) ∈ wG := List.mem_filter.mpr ⟨List.mem_append_right _ (List.mem_of_getElem? (i := 325) (by decide +kernel)), by decide +kernel⟩
theorem kw_326 : (Jvm.Cond.code ({ cls := "Takinghall", name := "isPerson", desc := "(I)Z" } : Jvm.MethodName) prog_1_method_35_code (1 : Nat) (Option.some Jvm.ClassFile.FieldType.boolean)) ∈ wG := List.mem_filter.mpr ⟨List.mem_append_right _ (List.mem_of_getElem? (i := 326) (by decide +kernel)), by decide +kernel⟩
theorem kw_328 : (Jvm.Cond.methodLink "Takinghall" (150 : Nat) ({ cls := "Takinghall", name := "sharesOf", desc := "(LTakinghall$Plot;)I" } : Jvm.MethodName)) ∈ wG := List.mem_filter.mpr ⟨List.mem_append_right _ (List.mem_of_getElem? (i := 328) (by decide +kernel)), by decide +kernel⟩
theorem kw_330 : (Jvm.Cond.instanceMethod ({ cls := "Takinghall", name := "sharesOf", desc := "(LTakinghall$Plot;)I" } : Jvm.MethodName)) ∈ wG := List.mem_filter.mpr ⟨List.mem_append_right _ (List.mem_of_getElem? (i := 330) (by decide +kernel)), by decide +kernel⟩
theorem kw_331 : (Jvm.Cond.code ({ cls := "Takinghall", name := "sharesOf", desc := "(LTakinghall$Plot;)I" } : Jvm.MethodName) prog_1_method_63_code (7 : Nat) (Option.some Jvm.ClassFile.FieldType.int)) ∈ wG := List.mem_filter.mpr ⟨List.mem_append_right _ (List.mem_of_getElem? (i := 331) (by decide +kernel)), by decide +kernel⟩
theorem kw_333 : (Jvm.Cond.methodLink "Takinghall" (155 : Nat) ({ cls := "Takinghall", name := "canTellInterest", desc := "(LTakinghall$Plot;)Z" } : Jvm.MethodName)) ∈ wG := List.mem_filter.mpr ⟨List.mem_append_right _ (List.mem_of_getElem? (i := 333) (by decide +kernel)), by decide +kernel⟩
theorem kw_335 : (Jvm.Cond.instanceMethod ({ cls := "Takinghall", name := "canTellInterest", desc := "(LTakinghall$Plot;)Z" } : Jvm.MethodName)) ∈ wG := List.mem_filter.mpr ⟨List.mem_append_right _ (List.mem_of_getElem? (i := 335) (by decide +kernel)), by decide +kernel⟩
theorem kw_336 : (Jvm.Cond.code ({ cls := "Takinghall", name := "canTellInterest", desc := "(LTakinghall$Plot;)Z" } : Jvm.MethodName) prog_1_method_61_code (2 : Nat) (Option.some Jvm.ClassFile.FieldType.boolean)) ∈ wG := List.mem_filter.mpr ⟨List.mem_append_right _ (List.mem_of_getElem? (i := 336) (by decide +kernel)), by decide +kernel⟩
theorem kw_338 : (Jvm.Cond.methodLink "Takinghall" (160 : Nat) ({ cls := "Takinghall", name := "tellInterest", desc := "(ILTakinghall$Plot;III)I" } : Jvm.MethodName)) ∈ wG := List.mem_filter.mpr ⟨List.mem_append_right _ (List.mem_of_getElem? (i := 338) (by decide +kernel)), by decide +kernel⟩
theorem kw_340 : (Jvm.Cond.instanceMethod ({ cls := "Takinghall", name := "tellInterest", desc := "(ILTakinghall$Plot;III)I" } : Jvm.MethodName)) ∈ wG := List.mem_filter.mpr ⟨List.mem_append_right _ (List.mem_of_getElem? (i := 340) (by decide +kernel)), by decide +kernel⟩
theorem kw_341 : (Jvm.Cond.code ({ cls := "Takinghall", name := "tellInterest", desc := "(ILTakinghall$Plot;III)I" } : Jvm.MethodName) prog_1_method_62_code (7 : Nat) (Option.some Jvm.ClassFile.FieldType.int)) ∈ wG := List.mem_filter.mpr ⟨List.mem_append_right _ (List.mem_of_getElem? (i := 341) (by decide +kernel)), by decide +kernel⟩
theorem kw_342 : (Jvm.Cond.instantiable "Takinghall$Interest" (15 : Nat)) ∈ wG := List.mem_filter.mpr ⟨List.mem_append_right _ (List.mem_of_getElem? (i := 342) (by decide +kernel)), by decide +kernel⟩
theorem kw_343 : (Jvm.Cond.methodLink "Takinghall" (384 : Nat) ({ cls := "Takinghall$Interest", name := "<init>", desc := "(IILTakinghall$Plot;IIII)V" } : Jvm.MethodName)) ∈ wG := List.mem_filter.mpr ⟨List.mem_append_right _ (List.mem_of_getElem? (i := 343) (by decide +kernel)), by decide +kernel⟩
theorem kw_344 : (Jvm.Cond.instanceMethod ({ cls := "Takinghall$Interest", name := "<init>", desc := "(IILTakinghall$Plot;IIII)V" } : Jvm.MethodName)) ∈ wG := List.mem_filter.mpr ⟨List.mem_append_right _ (List.mem_of_getElem? (i := 344) (by decide +kernel)), by decide +kernel⟩
theorem kw_345 : (Jvm.Cond.code ({ cls := "Takinghall$Interest", name := "<init>", desc := "(IILTakinghall$Plot;IIII)V" } : Jvm.MethodName) prog_2_method_1_code (8 : Nat) (Option.none : Option Jvm.ClassFile.FieldType)) ∈ wG := List.mem_filter.mpr ⟨List.mem_append_right _ (List.mem_of_getElem? (i := 345) (by decide +kernel)), by decide +kernel⟩
theorem kw_346 : (Jvm.Cond.methodLink "Takinghall$Interest" (3 : Nat) ({ cls := "java/lang/Object", name := "<init>", desc := "()V" } : Jvm.MethodName)) ∈ wG := List.mem_filter.mpr ⟨List.mem_append_right _ (List.mem_of_getElem? (i := 346) (by decide +kernel)), by decide +kernel⟩
theorem kw_347 : (Jvm.Cond.fieldLink "Takinghall$Interest" (18 : Nat) "Takinghall$Interest" "number" "I") ∈ wG := List.mem_filter.mpr ⟨List.mem_append_right _ (List.mem_of_getElem? (i := 347) (by decide +kernel)), by decide +kernel⟩
theorem kw_348 : (Jvm.Cond.fieldLink "Takinghall" (359 : Nat) "Takinghall$Interest" "number" "I") ∈ wG := List.mem_filter.mpr ⟨List.mem_append_right _ (List.mem_of_getElem? (i := 348) (by decide +kernel)), by decide +kernel⟩
theorem kw_349 : (Jvm.Cond.fieldLink "Takinghall$Interest" (21 : Nat) "Takinghall$Interest" "kind" "I") ∈ wG := List.mem_filter.mpr ⟨List.mem_append_right _ (List.mem_of_getElem? (i := 349) (by decide +kernel)), by decide +kernel⟩
theorem kw_350 : (Jvm.Cond.fieldLink "Takinghall" (175 : Nat) "Takinghall$Interest" "kind" "I") ∈ wG := List.mem_filter.mpr ⟨List.mem_append_right _ (List.mem_of_getElem? (i := 350) (by decide +kernel)), by decide +kernel⟩
theorem kw_351 : (Jvm.Cond.fieldLink "Takinghall$Interest" (24 : Nat) "Takinghall$Interest" "plot" "LTakinghall$Plot;") ∈ wG := List.mem_filter.mpr ⟨List.mem_append_right _ (List.mem_of_getElem? (i := 351) (by decide +kernel)), by decide +kernel⟩
theorem kw_352 : (Jvm.Cond.fieldLink "Takinghall" (178 : Nat) "Takinghall$Interest" "plot" "LTakinghall$Plot;") ∈ wG := List.mem_filter.mpr ⟨List.mem_append_right _ (List.mem_of_getElem? (i := 352) (by decide +kernel)), by decide +kernel⟩
theorem kw_353 : (Jvm.Cond.fieldLink "Takinghall$Interest" (28 : Nat) "Takinghall$Interest" "person" "I") ∈ wG := List.mem_filter.mpr ⟨List.mem_append_right _ (List.mem_of_getElem? (i := 353) (by decide +kernel)), by decide +kernel⟩
theorem kw_354 : (Jvm.Cond.fieldLink "Takinghall" (184 : Nat) "Takinghall$Interest" "person" "I") ∈ wG := List.mem_filter.mpr ⟨List.mem_append_right _ (List.mem_of_getElem? (i := 354) (by decide +kernel)), by decide +kernel⟩
theorem kw_355 : (Jvm.Cond.fieldLink "Takinghall$Interest" (31 : Nat) "Takinghall$Interest" "since" "I") ∈ wG := List.mem_filter.mpr ⟨List.mem_append_right _ (List.mem_of_getElem? (i := 355) (by decide +kernel)), by decide +kernel⟩
theorem kw_356 : (Jvm.Cond.fieldLink "Takinghall" (187 : Nat) "Takinghall$Interest" "since" "I") ∈ wG := List.mem_filter.mpr ⟨List.mem_append_right _ (List.mem_of_getElem? (i := 356) (by decide +kernel)), by decide +kernel⟩
theorem kw_357 : (Jvm.Cond.fieldLink "Takinghall$Interest" (34 : Nat) "Takinghall$Interest" "measure" "I") ∈ wG := List.mem_filter.mpr ⟨List.mem_append_right _ (List.mem_of_getElem? (i := 357) (by decide +kernel)), by decide +kernel⟩
theorem kw_358 : (Jvm.Cond.fieldLink "Takinghall" (190 : Nat) "Takinghall$Interest" "measure" "I") ∈ wG := List.mem_filter.mpr ⟨List.mem_append_right _ (List.mem_of_getElem? (i := 358) (by decide +kernel)), by decide +kernel⟩
theorem kw_359 : (Jvm.Cond.fieldLink "Takinghall$Interest" (37 : Nat) "Takinghall$Interest" "profit" "I") ∈ wG := List.mem_filter.mpr ⟨List.mem_append_right _ (List.mem_of_getElem? (i := 359) (by decide +kernel)), by decide +kernel⟩
theorem kw_360 : (Jvm.Cond.fieldLink "Takinghall" (420 : Nat) "Takinghall$Interest" "profit" "I") ∈ wG := List.mem_filter.mpr ⟨List.mem_append_right _ (List.mem_of_getElem? (i := 360) (by decide +kernel)), by decide +kernel⟩
theorem kw_361 : (Jvm.Cond.fieldLink "Takinghall$Interest" (9 : Nat) "Takinghall$Interest" "noticeDay" "I") ∈ wG := List.mem_filter.mpr ⟨List.mem_append_right _ (List.mem_of_getElem? (i := 361) (by decide +kernel)), by decide +kernel⟩
theorem kw_362 : (Jvm.Cond.fieldLink "Takinghall" (193 : Nat) "Takinghall$Interest" "noticeDay" "I") ∈ wG := List.mem_filter.mpr ⟨List.mem_append_right _ (List.mem_of_getElem? (i := 362) (by decide +kernel)), by decide +kernel⟩
theorem kw_363 : (Jvm.Cond.fieldLink "Takinghall" (243 : Nat) "Takinghall$Interest" "hasObjected" "Z") ∈ wG := List.mem_filter.mpr ⟨List.mem_append_right _ (List.mem_of_getElem? (i := 363) (by decide +kernel)), by decide +kernel⟩
theorem kw_364 : (Jvm.Cond.fieldLink "Takinghall" (196 : Nat) "Takinghall$Interest" "isObjectionOpen" "Z") ∈ wG := List.mem_filter.mpr ⟨List.mem_append_right _ (List.mem_of_getElem? (i := 364) (by decide +kernel)), by decide +kernel⟩
theorem kw_365 : (Jvm.Cond.fieldLink "Takinghall" (199 : Nat) "Takinghall$Interest" "sum" "J") ∈ wG := List.mem_filter.mpr ⟨List.mem_append_right _ (List.mem_of_getElem? (i := 365) (by decide +kernel)), by decide +kernel⟩
theorem kw_366 : (Jvm.Cond.fieldLink "Takinghall" (203 : Nat) "Takinghall$Interest" "advanced" "J") ∈ wG := List.mem_filter.mpr ⟨List.mem_append_right _ (List.mem_of_getElem? (i := 366) (by decide +kernel)), by decide +kernel⟩
theorem kw_367 : (Jvm.Cond.fieldLink "Takinghall$Interest" (15 : Nat) "Takinghall$Interest" "advanceDay" "I") ∈ wG := List.mem_filter.mpr ⟨List.mem_append_right _ (List.mem_of_getElem? (i := 367) (by decide +kernel)), by decide +kernel⟩
theorem kw_368 : (Jvm.Cond.fieldLink "Takinghall" (314 : Nat) "Takinghall$Interest" "advanceDay" "I") ∈ wG := List.mem_filter.mpr ⟨List.mem_append_right _ (List.mem_of_getElem? (i := 368) (by decide +kernel)), by decide +kernel⟩
theorem kw_369 : (Jvm.Cond.fieldLink "Takinghall" (206 : Nat) "Takinghall$Interest" "settled" "J") ∈ wG := List.mem_filter.mpr ⟨List.mem_append_right _ (List.mem_of_getElem? (i := 369) (by decide +kernel)), by decide +kernel⟩
theorem kw_370 : (Jvm.Cond.fieldLink "Takinghall" (317 : Nat) "Takinghall$Interest" "isSettled" "Z") ∈ wG := List.mem_filter.mpr ⟨List.mem_append_right _ (List.mem_of_getElem? (i := 370) (by decide +kernel)), by decide +kernel⟩
theorem kw_371 : (Jvm.Cond.laysFinal "Takinghall$Interest" "Takinghall$Interest" "number" "I") ∈ wG := List.mem_filter.mpr ⟨List.mem_append_right _ (List.mem_of_getElem? (i := 371) (by decide +kernel)), by decide +kernel⟩
theorem kw_373 : (Jvm.Cond.laysFinal "Takinghall$Interest" "Takinghall$Interest" "kind" "I") ∈ wG := List.mem_filter.mpr ⟨List.mem_append_right _ (List.mem_of_getElem? (i := 373) (by decide +kernel)), by decide +kernel⟩
theorem kw_375 : (Jvm.Cond.laysFinal "Takinghall$Interest" "Takinghall$Interest" "plot" "LTakinghall$Plot;") ∈ wG := List.mem_filter.mpr ⟨List.mem_append_right _ (List.mem_of_getElem? (i := 375) (by decide +kernel)), by decide +kernel⟩
theorem kw_377 : (Jvm.Cond.laysFinal "Takinghall$Interest" "Takinghall$Interest" "person" "I") ∈ wG := List.mem_filter.mpr ⟨List.mem_append_right _ (List.mem_of_getElem? (i := 377) (by decide +kernel)), by decide +kernel⟩
theorem kw_379 : (Jvm.Cond.laysFinal "Takinghall$Interest" "Takinghall$Interest" "since" "I") ∈ wG := List.mem_filter.mpr ⟨List.mem_append_right _ (List.mem_of_getElem? (i := 379) (by decide +kernel)), by decide +kernel⟩
theorem kw_381 : (Jvm.Cond.laysFinal "Takinghall$Interest" "Takinghall$Interest" "measure" "I") ∈ wG := List.mem_filter.mpr ⟨List.mem_append_right _ (List.mem_of_getElem? (i := 381) (by decide +kernel)), by decide +kernel⟩
theorem kw_383 : (Jvm.Cond.laysFinal "Takinghall$Interest" "Takinghall$Interest" "profit" "I") ∈ wG := List.mem_filter.mpr ⟨List.mem_append_right _ (List.mem_of_getElem? (i := 383) (by decide +kernel)), by decide +kernel⟩
theorem kw_385 : (Jvm.Cond.lays "Takinghall$Interest" "Takinghall$Interest" "noticeDay" "I") ∈ wG := List.mem_filter.mpr ⟨List.mem_append_right _ (List.mem_of_getElem? (i := 385) (by decide +kernel)), by decide +kernel⟩
theorem kw_387 : (Jvm.Cond.lays "Takinghall$Interest" "Takinghall$Interest" "hasObjected" "Z") ∈ wG := List.mem_filter.mpr ⟨List.mem_append_right _ (List.mem_of_getElem? (i := 387) (by decide +kernel)), by decide +kernel⟩
theorem kw_389 : (Jvm.Cond.lays "Takinghall$Interest" "Takinghall$Interest" "isObjectionOpen" "Z") ∈ wG := List.mem_filter.mpr ⟨List.mem_append_right _ (List.mem_of_getElem? (i := 389) (by decide +kernel)), by decide +kernel⟩
theorem kw_391 : (Jvm.Cond.lays "Takinghall$Interest" "Takinghall$Interest" "sum" "J") ∈ wG := List.mem_filter.mpr ⟨List.mem_append_right _ (List.mem_of_getElem? (i := 391) (by decide +kernel)), by decide +kernel⟩
theorem kw_393 : (Jvm.Cond.lays "Takinghall$Interest" "Takinghall$Interest" "advanced" "J") ∈ wG := List.mem_filter.mpr ⟨List.mem_append_right _ (List.mem_of_getElem? (i := 393) (by decide +kernel)), by decide +kernel⟩
theorem kw_395 : (Jvm.Cond.lays "Takinghall$Interest" "Takinghall$Interest" "advanceDay" "I") ∈ wG := List.mem_filter.mpr ⟨List.mem_append_right _ (List.mem_of_getElem? (i := 395) (by decide +kernel)), by decide +kernel⟩
theorem kw_397 : (Jvm.Cond.lays "Takinghall$Interest" "Takinghall$Interest" "settled" "J") ∈ wG := List.mem_filter.mpr ⟨List.mem_append_right _ (List.mem_of_getElem? (i := 397) (by decide +kernel)), by decide +kernel⟩
theorem kw_399 : (Jvm.Cond.lays "Takinghall$Interest" "Takinghall$Interest" "isSettled" "Z") ∈ wG := List.mem_filter.mpr ⟨List.mem_append_right _ (List.mem_of_getElem? (i := 399) (by decide +kernel)), by decide +kernel⟩
theorem kw_402 : (Jvm.Cond.methodLink "TakinghallLaw" (143 : Nat) ({ cls := "TakinghallLaw", name := "lease", desc := "(LTakinghall;IIII[J)I" } : Jvm.MethodName)) ∈ wG := List.mem_filter.mpr ⟨List.mem_append_right _ (List.mem_of_getElem? (i := 402) (by decide +kernel)), by decide +kernel⟩
theorem kw_403 : (Jvm.Cond.static ({ cls := "TakinghallLaw", name := "lease", desc := "(LTakinghall;IIII[J)I" } : Jvm.MethodName)) ∈ wG := List.mem_filter.mpr ⟨List.mem_append_right _ (List.mem_of_getElem? (i := 403) (by decide +kernel)), by decide +kernel⟩
theorem kw_404 : (Jvm.Cond.codeWith ({ cls := "TakinghallLaw", name := "lease", desc := "(LTakinghall;IIII[J)I" } : Jvm.MethodName) method_9_code (7 : Nat) (Option.some Jvm.ClassFile.FieldType.int) [((0 : Nat), (14 : Nat), (17 : Nat), (13 : Nat)), ((0 : Nat), (14 : Nat), (21 : Nat), (15 : Nat)), ((0 : Nat), (14 : Nat), (25 : Nat), (17 : Nat))]) ∈ wG := List.mem_filter.mpr ⟨List.mem_append_right _ (List.mem_of_getElem? (i := 404) (by decide +kernel)), by decide +kernel⟩
theorem kw_405 : (Jvm.Cond.methodLink "TakinghallLaw" (36 : Nat) ({ cls := "Takinghall", name := "lease", desc := "(IIII)I" } : Jvm.MethodName)) ∈ wG := List.mem_filter.mpr ⟨List.mem_append_right _ (List.mem_of_getElem? (i := 405) (by decide +kernel)), by decide +kernel⟩
theorem kw_406 : (Jvm.Cond.instanceMethod ({ cls := "Takinghall", name := "lease", desc := "(IIII)I" } : Jvm.MethodName)) ∈ wG := List.mem_filter.mpr ⟨List.mem_append_right _ (List.mem_of_getElem? (i := 406) (by decide +kernel)), by decide +kernel⟩
theorem kw_407 : (Jvm.Cond.selects "Takinghall" ({ cls := "Takinghall", name := "lease", desc := "(IIII)I" } : Jvm.MethodName) ({ cls := "Takinghall", name := "lease", desc := "(IIII)I" } : Jvm.MethodName)) ∈ wG := List.mem_filter.mpr ⟨List.mem_append_right _ (List.mem_of_getElem? (i := 407) (by decide +kernel)), by decide +kernel⟩
theorem kw_408 : (Jvm.Cond.code ({ cls := "Takinghall", name := "lease", desc := "(IIII)I" } : Jvm.MethodName) prog_1_method_8_code (6 : Nat) (Option.some Jvm.ClassFile.FieldType.int)) ∈ wG := List.mem_filter.mpr ⟨List.mem_append_right _ (List.mem_of_getElem? (i := 408) (by decide +kernel)), by decide +kernel⟩
theorem kw_410 : (Jvm.Cond.methodLink "TakinghallLaw" (147 : Nat) ({ cls := "TakinghallLaw", name := "charge", desc := "(LTakinghall;III[J)I" } : Jvm.MethodName)) ∈ wG := List.mem_filter.mpr ⟨List.mem_append_right _ (List.mem_of_getElem? (i := 410) (by decide +kernel)), by decide +kernel⟩
theorem kw_411 : (Jvm.Cond.static ({ cls := "TakinghallLaw", name := "charge", desc := "(LTakinghall;III[J)I" } : Jvm.MethodName)) ∈ wG := List.mem_filter.mpr ⟨List.mem_append_right _ (List.mem_of_getElem? (i := 411) (by decide +kernel)), by decide +kernel⟩
theorem kw_412 : (Jvm.Cond.codeWith ({ cls := "TakinghallLaw", name := "charge", desc := "(LTakinghall;III[J)I" } : Jvm.MethodName) method_10_code (6 : Nat) (Option.some Jvm.ClassFile.FieldType.int) [((0 : Nat), (12 : Nat), (15 : Nat), (13 : Nat)), ((0 : Nat), (12 : Nat), (19 : Nat), (15 : Nat)), ((0 : Nat), (12 : Nat), (23 : Nat), (17 : Nat))]) ∈ wG := List.mem_filter.mpr ⟨List.mem_append_right _ (List.mem_of_getElem? (i := 412) (by decide +kernel)), by decide +kernel⟩
theorem kw_413 : (Jvm.Cond.methodLink "TakinghallLaw" (40 : Nat) ({ cls := "Takinghall", name := "charge", desc := "(III)I" } : Jvm.MethodName)) ∈ wG := List.mem_filter.mpr ⟨List.mem_append_right _ (List.mem_of_getElem? (i := 413) (by decide +kernel)), by decide +kernel⟩
theorem kw_414 : (Jvm.Cond.instanceMethod ({ cls := "Takinghall", name := "charge", desc := "(III)I" } : Jvm.MethodName)) ∈ wG := List.mem_filter.mpr ⟨List.mem_append_right _ (List.mem_of_getElem? (i := 414) (by decide +kernel)), by decide +kernel⟩
theorem kw_415 : (Jvm.Cond.selects "Takinghall" ({ cls := "Takinghall", name := "charge", desc := "(III)I" } : Jvm.MethodName) ({ cls := "Takinghall", name := "charge", desc := "(III)I" } : Jvm.MethodName)) ∈ wG := List.mem_filter.mpr ⟨List.mem_append_right _ (List.mem_of_getElem? (i := 415) (by decide +kernel)), by decide +kernel⟩
theorem kw_416 : (Jvm.Cond.code ({ cls := "Takinghall", name := "charge", desc := "(III)I" } : Jvm.MethodName) prog_1_method_9_code (5 : Nat) (Option.some Jvm.ClassFile.FieldType.int)) ∈ wG := List.mem_filter.mpr ⟨List.mem_append_right _ (List.mem_of_getElem? (i := 416) (by decide +kernel)), by decide +kernel⟩
theorem kw_417 : (Jvm.Cond.constant "Takinghall" (166 : Nat) (100000 : Int32)) ∈ wG := List.mem_filter.mpr ⟨List.mem_append_right _ (List.mem_of_getElem? (i := 417) (by decide +kernel)), by decide +kernel⟩
theorem kw_419 : (Jvm.Cond.methodLink "TakinghallLaw" (150 : Nat) ({ cls := "TakinghallLaw", name := "interestOf", desc := "(LTakinghall;II[J)I" } : Jvm.MethodName)) ∈ wG := List.mem_filter.mpr ⟨List.mem_append_right _ (List.mem_of_getElem? (i := 419) (by decide +kernel)), by decide +kernel⟩
theorem kw_420 : (Jvm.Cond.static ({ cls := "TakinghallLaw", name := "interestOf", desc := "(LTakinghall;II[J)I" } : Jvm.MethodName)) ∈ wG := List.mem_filter.mpr ⟨List.mem_append_right _ (List.mem_of_getElem? (i := 420) (by decide +kernel)), by decide +kernel⟩
theorem kw_421 : (Jvm.Cond.codeWith ({ cls := "TakinghallLaw", name := "interestOf", desc := "(LTakinghall;II[J)I" } : Jvm.MethodName) method_11_code (5 : Nat) (Option.some Jvm.ClassFile.FieldType.int) [((0 : Nat), (9 : Nat), (12 : Nat), (13 : Nat)), ((0 : Nat), (9 : Nat), (16 : Nat), (15 : Nat))]) ∈ wG := List.mem_filter.mpr ⟨List.mem_append_right _ (List.mem_of_getElem? (i := 421) (by decide +kernel)), by decide +kernel⟩
theorem kw_422 : (Jvm.Cond.methodLink "TakinghallLaw" (43 : Nat) ({ cls := "Takinghall", name := "interestOf", desc := "(II)J" } : Jvm.MethodName)) ∈ wG := List.mem_filter.mpr ⟨List.mem_append_right _ (List.mem_of_getElem? (i := 422) (by decide +kernel)), by decide +kernel⟩
theorem kw_423 : (Jvm.Cond.instanceMethod ({ cls := "Takinghall", name := "interestOf", desc := "(II)J" } : Jvm.MethodName)) ∈ wG := List.mem_filter.mpr ⟨List.mem_append_right _ (List.mem_of_getElem? (i := 423) (by decide +kernel)), by decide +kernel⟩
theorem kw_424 : (Jvm.Cond.selects "Takinghall" ({ cls := "Takinghall", name := "interestOf", desc := "(II)J" } : Jvm.MethodName) ({ cls := "Takinghall", name := "interestOf", desc := "(II)J" } : Jvm.MethodName)) ∈ wG := List.mem_filter.mpr ⟨List.mem_append_right _ (List.mem_of_getElem? (i := 424) (by decide +kernel)), by decide +kernel⟩
theorem kw_425 : (Jvm.Cond.code ({ cls := "Takinghall", name := "interestOf", desc := "(II)J" } : Jvm.MethodName) prog_1_method_10_code (4 : Nat) (Option.some Jvm.ClassFile.FieldType.long)) ∈ wG := List.mem_filter.mpr ⟨List.mem_append_right _ (List.mem_of_getElem? (i := 425) (by decide +kernel)), by decide +kernel⟩
theorem kw_426 : (Jvm.Cond.methodLink "Takinghall" (169 : Nat) ({ cls := "Takinghall", name := "interestAt", desc := "(I)LTakinghall$Interest;" } : Jvm.MethodName)) ∈ wG := List.mem_filter.mpr ⟨List.mem_append_right _ (List.mem_of_getElem? (i := 426) (by decide +kernel)), by decide +kernel⟩
theorem kw_428 : (Jvm.Cond.instanceMethod ({ cls := "Takinghall", name := "interestAt", desc := "(I)LTakinghall$Interest;" } : Jvm.MethodName)) ∈ wG := List.mem_filter.mpr ⟨List.mem_append_right _ (List.mem_of_getElem? (i := 428) (by decide +kernel)), by decide +kernel⟩
theorem kw_429 : (Jvm.Cond.code ({ cls := "Takinghall", name := "interestAt", desc := "(I)LTakinghall$Interest;" } : Jvm.MethodName) prog_1_method_38_code (2 : Nat) (Option.some (Jvm.ClassFile.FieldType.object "Takinghall$Interest"))) ∈ wG := List.mem_filter.mpr ⟨List.mem_append_right _ (List.mem_of_getElem? (i := 429) (by decide +kernel)), by decide +kernel⟩
theorem kw_431 : (Jvm.Cond.methodLink "Takinghall" (182 : Nat) ({ cls := "Takinghall", name := "numberOf", desc := "(LTakinghall$Plot;)I" } : Jvm.MethodName)) ∈ wG := List.mem_filter.mpr ⟨List.mem_append_right _ (List.mem_of_getElem? (i := 431) (by decide +kernel)), by decide +kernel⟩
theorem kw_432 : (Jvm.Cond.static ({ cls := "Takinghall", name := "numberOf", desc := "(LTakinghall$Plot;)I" } : Jvm.MethodName)) ∈ wG := List.mem_filter.mpr ⟨List.mem_append_right _ (List.mem_of_getElem? (i := 432) (by decide +kernel)), by decide +kernel⟩
theorem kw_433 : (Jvm.Cond.code ({ cls := "Takinghall", name := "numberOf", desc := "(LTakinghall$Plot;)I" } : Jvm.MethodName) prog_1_method_40_code (1 : Nat) (Option.some Jvm.ClassFile.FieldType.int)) ∈ wG := List.mem_filter.mpr ⟨List.mem_append_right _ (List.mem_of_getElem? (i := 433) (by decide +kernel)), by decide +kernel⟩
theorem kw_434 : (Jvm.Cond.methodLink "TakinghallLaw" (153 : Nat) ({ cls := "TakinghallLaw", name := "scheme", desc := "(LTakinghall;II[J)I" } : Jvm.MethodName)) ∈ wG := List.mem_filter.mpr ⟨List.mem_append_right _ (List.mem_of_getElem? (i := 434) (by decide +kernel)), by decide +kernel⟩
theorem kw_435 : (Jvm.Cond.static ({ cls := "TakinghallLaw", name := "scheme", desc := "(LTakinghall;II[J)I" } : Jvm.MethodName)) ∈ wG := List.mem_filter.mpr ⟨List.mem_append_right _ (List.mem_of_getElem? (i := 435) (by decide +kernel)), by decide +kernel⟩
theorem kw_436 : (Jvm.Cond.codeWith ({ cls := "TakinghallLaw", name := "scheme", desc := "(LTakinghall;II[J)I" } : Jvm.MethodName) method_12_code (5 : Nat) (Option.some Jvm.ClassFile.FieldType.int) [((0 : Nat), (10 : Nat), (13 : Nat), (15 : Nat)), ((0 : Nat), (10 : Nat), (17 : Nat), (17 : Nat))]) ∈ wG := List.mem_filter.mpr ⟨List.mem_append_right _ (List.mem_of_getElem? (i := 436) (by decide +kernel)), by decide +kernel⟩
theorem kw_437 : (Jvm.Cond.methodLink "TakinghallLaw" (47 : Nat) ({ cls := "Takinghall", name := "scheme", desc := "(II)I" } : Jvm.MethodName)) ∈ wG := List.mem_filter.mpr ⟨List.mem_append_right _ (List.mem_of_getElem? (i := 437) (by decide +kernel)), by decide +kernel⟩
theorem kw_438 : (Jvm.Cond.instanceMethod ({ cls := "Takinghall", name := "scheme", desc := "(II)I" } : Jvm.MethodName)) ∈ wG := List.mem_filter.mpr ⟨List.mem_append_right _ (List.mem_of_getElem? (i := 438) (by decide +kernel)), by decide +kernel⟩
theorem kw_439 : (Jvm.Cond.selects "Takinghall" ({ cls := "Takinghall", name := "scheme", desc := "(II)I" } : Jvm.MethodName) ({ cls := "Takinghall", name := "scheme", desc := "(II)I" } : Jvm.MethodName)) ∈ wG := List.mem_filter.mpr ⟨List.mem_append_right _ (List.mem_of_getElem? (i := 439) (by decide +kernel)), by decide +kernel⟩
theorem kw_440 : (Jvm.Cond.code ({ cls := "Takinghall", name := "scheme", desc := "(II)I" } : Jvm.MethodName) prog_1_method_11_code (4 : Nat) (Option.some Jvm.ClassFile.FieldType.int)) ∈ wG := List.mem_filter.mpr ⟨List.mem_append_right _ (List.mem_of_getElem? (i := 440) (by decide +kernel)), by decide +kernel⟩
theorem kw_443 : (Jvm.Cond.instantiable "Takinghall$Scheme" (6 : Nat)) ∈ wG := List.mem_filter.mpr ⟨List.mem_append_right _ (List.mem_of_getElem? (i := 443) (by decide +kernel)), by decide +kernel⟩
theorem kw_444 : (Jvm.Cond.methodLink "Takinghall" (216 : Nat) ({ cls := "Takinghall$Scheme", name := "<init>", desc := "(III)V" } : Jvm.MethodName)) ∈ wG := List.mem_filter.mpr ⟨List.mem_append_right _ (List.mem_of_getElem? (i := 444) (by decide +kernel)), by decide +kernel⟩
theorem kw_445 : (Jvm.Cond.instanceMethod ({ cls := "Takinghall$Scheme", name := "<init>", desc := "(III)V" } : Jvm.MethodName)) ∈ wG := List.mem_filter.mpr ⟨List.mem_append_right _ (List.mem_of_getElem? (i := 445) (by decide +kernel)), by decide +kernel⟩
theorem kw_446 : (Jvm.Cond.code ({ cls := "Takinghall$Scheme", name := "<init>", desc := "(III)V" } : Jvm.MethodName) prog_5_method_1_code (4 : Nat) (Option.none : Option Jvm.ClassFile.FieldType)) ∈ wG := List.mem_filter.mpr ⟨List.mem_append_right _ (List.mem_of_getElem? (i := 446) (by decide +kernel)), by decide +kernel⟩
theorem kw_447 : (Jvm.Cond.methodLink "Takinghall$Scheme" (3 : Nat) ({ cls := "java/lang/Object", name := "<init>", desc := "()V" } : Jvm.MethodName)) ∈ wG := List.mem_filter.mpr ⟨List.mem_append_right _ (List.mem_of_getElem? (i := 447) (by decide +kernel)), by decide +kernel⟩
theorem kw_448 : (Jvm.Cond.fieldLink "Takinghall$Scheme" (21 : Nat) "Takinghall$Scheme" "number" "I") ∈ wG := List.mem_filter.mpr ⟨List.mem_append_right _ (List.mem_of_getElem? (i := 448) (by decide +kernel)), by decide +kernel⟩
theorem kw_449 : (Jvm.Cond.fieldLink "Takinghall" (242 : Nat) "Takinghall$Scheme" "number" "I") ∈ wG := List.mem_filter.mpr ⟨List.mem_append_right _ (List.mem_of_getElem? (i := 449) (by decide +kernel)), by decide +kernel⟩
theorem kw_450 : (Jvm.Cond.fieldLink "Takinghall$Scheme" (24 : Nat) "Takinghall$Scheme" "harm" "I") ∈ wG := List.mem_filter.mpr ⟨List.mem_append_right _ (List.mem_of_getElem? (i := 450) (by decide +kernel)), by decide +kernel⟩
theorem kw_451 : (Jvm.Cond.fieldLink "Takinghall" (394 : Nat) "Takinghall$Scheme" "harm" "I") ∈ wG := List.mem_filter.mpr ⟨List.mem_append_right _ (List.mem_of_getElem? (i := 451) (by decide +kernel)), by decide +kernel⟩
theorem kw_452 : (Jvm.Cond.fieldLink "Takinghall$Scheme" (27 : Nat) "Takinghall$Scheme" "rise" "I") ∈ wG := List.mem_filter.mpr ⟨List.mem_append_right _ (List.mem_of_getElem? (i := 452) (by decide +kernel)), by decide +kernel⟩
theorem kw_453 : (Jvm.Cond.fieldLink "Takinghall" (397 : Nat) "Takinghall$Scheme" "rise" "I") ∈ wG := List.mem_filter.mpr ⟨List.mem_append_right _ (List.mem_of_getElem? (i := 453) (by decide +kernel)), by decide +kernel⟩
theorem kw_454 : (Jvm.Cond.fieldLink "Takinghall$Scheme" (9 : Nat) "Takinghall$Scheme" "state" "I") ∈ wG := List.mem_filter.mpr ⟨List.mem_append_right _ (List.mem_of_getElem? (i := 454) (by decide +kernel)), by decide +kernel⟩
theorem kw_455 : (Jvm.Cond.fieldLink "Takinghall" (227 : Nat) "Takinghall$Scheme" "state" "I") ∈ wG := List.mem_filter.mpr ⟨List.mem_append_right _ (List.mem_of_getElem? (i := 455) (by decide +kernel)), by decide +kernel⟩
theorem kw_456 : (Jvm.Cond.fieldLink "Takinghall$Scheme" (15 : Nat) "Takinghall$Scheme" "confirmDay" "I") ∈ wG := List.mem_filter.mpr ⟨List.mem_append_right _ (List.mem_of_getElem? (i := 456) (by decide +kernel)), by decide +kernel⟩
theorem kw_457 : (Jvm.Cond.fieldLink "Takinghall" (270 : Nat) "Takinghall$Scheme" "confirmDay" "I") ∈ wG := List.mem_filter.mpr ⟨List.mem_append_right _ (List.mem_of_getElem? (i := 457) (by decide +kernel)), by decide +kernel⟩
theorem kw_458 : (Jvm.Cond.fieldLink "Takinghall$Scheme" (18 : Nat) "Takinghall$Scheme" "dropDay" "I") ∈ wG := List.mem_filter.mpr ⟨List.mem_append_right _ (List.mem_of_getElem? (i := 458) (by decide +kernel)), by decide +kernel⟩
theorem kw_459 : (Jvm.Cond.fieldLink "Takinghall" (282 : Nat) "Takinghall$Scheme" "dropDay" "I") ∈ wG := List.mem_filter.mpr ⟨List.mem_append_right _ (List.mem_of_getElem? (i := 459) (by decide +kernel)), by decide +kernel⟩
theorem kw_460 : (Jvm.Cond.laysFinal "Takinghall$Scheme" "Takinghall$Scheme" "number" "I") ∈ wG := List.mem_filter.mpr ⟨List.mem_append_right _ (List.mem_of_getElem? (i := 460) (by decide +kernel)), by decide +kernel⟩
theorem kw_462 : (Jvm.Cond.laysFinal "Takinghall$Scheme" "Takinghall$Scheme" "harm" "I") ∈ wG := List.mem_filter.mpr ⟨List.mem_append_right _ (List.mem_of_getElem? (i := 462) (by decide +kernel)), by decide +kernel⟩
theorem kw_464 : (Jvm.Cond.laysFinal "Takinghall$Scheme" "Takinghall$Scheme" "rise" "I") ∈ wG := List.mem_filter.mpr ⟨List.mem_append_right _ (List.mem_of_getElem? (i := 464) (by decide +kernel)), by decide +kernel⟩
theorem kw_466 : (Jvm.Cond.lays "Takinghall$Scheme" "Takinghall$Scheme" "state" "I") ∈ wG := List.mem_filter.mpr ⟨List.mem_append_right _ (List.mem_of_getElem? (i := 466) (by decide +kernel)), by decide +kernel⟩
theorem kw_468 : (Jvm.Cond.lays "Takinghall$Scheme" "Takinghall$Scheme" "confirmDay" "I") ∈ wG := List.mem_filter.mpr ⟨List.mem_append_right _ (List.mem_of_getElem? (i := 468) (by decide +kernel)), by decide +kernel⟩
theorem kw_470 : (Jvm.Cond.lays "Takinghall$Scheme" "Takinghall$Scheme" "dropDay" "I") ∈ wG := List.mem_filter.mpr ⟨List.mem_append_right _ (List.mem_of_getElem? (i := 470) (by decide +kernel)), by decide +kernel⟩
theorem kw_473 : (Jvm.Cond.methodLink "TakinghallLaw" (156 : Nat) ({ cls := "TakinghallLaw", name := "draw", desc := "(LTakinghall;III[J)I" } : Jvm.MethodName)) ∈ wG := List.mem_filter.mpr ⟨List.mem_append_right _ (List.mem_of_getElem? (i := 473) (by decide +kernel)), by decide +kernel⟩
theorem kw_474 : (Jvm.Cond.static ({ cls := "TakinghallLaw", name := "draw", desc := "(LTakinghall;III[J)I" } : Jvm.MethodName)) ∈ wG := List.mem_filter.mpr ⟨List.mem_append_right _ (List.mem_of_getElem? (i := 474) (by decide +kernel)), by decide +kernel⟩
theorem kw_475 : (Jvm.Cond.codeWith ({ cls := "TakinghallLaw", name := "draw", desc := "(LTakinghall;III[J)I" } : Jvm.MethodName) method_13_code (6 : Nat) (Option.some Jvm.ClassFile.FieldType.int) [((0 : Nat), (12 : Nat), (15 : Nat), (13 : Nat)), ((0 : Nat), (12 : Nat), (19 : Nat), (15 : Nat)), ((0 : Nat), (12 : Nat), (23 : Nat), (17 : Nat))]) ∈ wG := List.mem_filter.mpr ⟨List.mem_append_right _ (List.mem_of_getElem? (i := 475) (by decide +kernel)), by decide +kernel⟩
theorem kw_476 : (Jvm.Cond.methodLink "TakinghallLaw" (50 : Nat) ({ cls := "Takinghall", name := "draw", desc := "(III)I" } : Jvm.MethodName)) ∈ wG := List.mem_filter.mpr ⟨List.mem_append_right _ (List.mem_of_getElem? (i := 476) (by decide +kernel)), by decide +kernel⟩
theorem kw_477 : (Jvm.Cond.instanceMethod ({ cls := "Takinghall", name := "draw", desc := "(III)I" } : Jvm.MethodName)) ∈ wG := List.mem_filter.mpr ⟨List.mem_append_right _ (List.mem_of_getElem? (i := 477) (by decide +kernel)), by decide +kernel⟩
theorem kw_478 : (Jvm.Cond.selects "Takinghall" ({ cls := "Takinghall", name := "draw", desc := "(III)I" } : Jvm.MethodName) ({ cls := "Takinghall", name := "draw", desc := "(III)I" } : Jvm.MethodName)) ∈ wG := List.mem_filter.mpr ⟨List.mem_append_right _ (List.mem_of_getElem? (i := 478) (by decide +kernel)), by decide +kernel⟩
theorem kw_479 : (Jvm.Cond.code ({ cls := "Takinghall", name := "draw", desc := "(III)I" } : Jvm.MethodName) prog_1_method_12_code (6 : Nat) (Option.some Jvm.ClassFile.FieldType.int)) ∈ wG := List.mem_filter.mpr ⟨List.mem_append_right _ (List.mem_of_getElem? (i := 479) (by decide +kernel)), by decide +kernel⟩
theorem kw_480 : (Jvm.Cond.methodLink "Takinghall" (219 : Nat) ({ cls := "Takinghall", name := "schemeAt", desc := "(I)LTakinghall$Scheme;" } : Jvm.MethodName)) ∈ wG := List.mem_filter.mpr ⟨List.mem_append_right _ (List.mem_of_getElem? (i := 480) (by decide +kernel)), by decide +kernel⟩
theorem kw_482 : (Jvm.Cond.instanceMethod ({ cls := "Takinghall", name := "schemeAt", desc := "(I)LTakinghall$Scheme;" } : Jvm.MethodName)) ∈ wG := List.mem_filter.mpr ⟨List.mem_append_right _ (List.mem_of_getElem? (i := 482) (by decide +kernel)), by decide +kernel⟩
theorem kw_483 : (Jvm.Cond.code ({ cls := "Takinghall", name := "schemeAt", desc := "(I)LTakinghall$Scheme;" } : Jvm.MethodName) prog_1_method_39_code (2 : Nat) (Option.some (Jvm.ClassFile.FieldType.object "Takinghall$Scheme"))) ∈ wG := List.mem_filter.mpr ⟨List.mem_append_right _ (List.mem_of_getElem? (i := 483) (by decide +kernel)), by decide +kernel⟩
theorem kw_487 : (Jvm.Cond.methodLink "Takinghall" (234 : Nat) ({ cls := "Takinghall", name := "countNeeded", desc := "(LTakinghall$Scheme;)I" } : Jvm.MethodName)) ∈ wG := List.mem_filter.mpr ⟨List.mem_append_right _ (List.mem_of_getElem? (i := 487) (by decide +kernel)), by decide +kernel⟩
theorem kw_489 : (Jvm.Cond.instanceMethod ({ cls := "Takinghall", name := "countNeeded", desc := "(LTakinghall$Scheme;)I" } : Jvm.MethodName)) ∈ wG := List.mem_filter.mpr ⟨List.mem_append_right _ (List.mem_of_getElem? (i := 489) (by decide +kernel)), by decide +kernel⟩
theorem kw_490 : (Jvm.Cond.code ({ cls := "Takinghall", name := "countNeeded", desc := "(LTakinghall$Scheme;)I" } : Jvm.MethodName) prog_1_method_53_code (7 : Nat) (Option.some Jvm.ClassFile.FieldType.int)) ∈ wG := List.mem_filter.mpr ⟨List.mem_append_right _ (List.mem_of_getElem? (i := 490) (by decide +kernel)), by decide +kernel⟩
theorem kw_491 : (Jvm.Cond.methodLink "Takinghall" (275 : Nat) ({ cls := "Takinghall", name := "isNeededBy", desc := "(LTakinghall$Plot;LTakinghall$Scheme;)Z" } : Jvm.MethodName)) ∈ wG := List.mem_filter.mpr ⟨List.mem_append_right _ (List.mem_of_getElem? (i := 491) (by decide +kernel)), by decide +kernel⟩
theorem kw_492 : (Jvm.Cond.static ({ cls := "Takinghall", name := "isNeededBy", desc := "(LTakinghall$Plot;LTakinghall$Scheme;)Z" } : Jvm.MethodName)) ∈ wG := List.mem_filter.mpr ⟨List.mem_append_right _ (List.mem_of_getElem? (i := 492) (by decide +kernel)), by decide +kernel⟩
theorem kw_493 : (Jvm.Cond.code ({ cls := "Takinghall", name := "isNeededBy", desc := "(LTakinghall$Plot;LTakinghall$Scheme;)Z" } : Jvm.MethodName) prog_1_method_50_code (2 : Nat) (Option.some Jvm.ClassFile.FieldType.boolean)) ∈ wG := List.mem_filter.mpr ⟨List.mem_append_right _ (List.mem_of_getElem? (i := 493) (by decide +kernel)), by decide +kernel⟩
theorem kw_494 : (Jvm.Cond.methodLink "TakinghallLaw" (159 : Nat) ({ cls := "TakinghallLaw", name := "notice", desc := "(LTakinghall;I[J)I" } : Jvm.MethodName)) ∈ wG := List.mem_filter.mpr ⟨List.mem_append_right _ (List.mem_of_getElem? (i := 494) (by decide +kernel)), by decide +kernel⟩
theorem kw_495 : (Jvm.Cond.static ({ cls := "TakinghallLaw", name := "notice", desc := "(LTakinghall;I[J)I" } : Jvm.MethodName)) ∈ wG := List.mem_filter.mpr ⟨List.mem_append_right _ (List.mem_of_getElem? (i := 495) (by decide +kernel)), by decide +kernel⟩
theorem kw_496 : (Jvm.Cond.codeWith ({ cls := "TakinghallLaw", name := "notice", desc := "(LTakinghall;I[J)I" } : Jvm.MethodName) method_14_code (4 : Nat) (Option.some Jvm.ClassFile.FieldType.int) [((0 : Nat), (9 : Nat), (12 : Nat), (13 : Nat)), ((0 : Nat), (9 : Nat), (15 : Nat), (17 : Nat))]) ∈ wG := List.mem_filter.mpr ⟨List.mem_append_right _ (List.mem_of_getElem? (i := 496) (by decide +kernel)), by decide +kernel⟩
theorem kw_497 : (Jvm.Cond.methodLink "TakinghallLaw" (53 : Nat) ({ cls := "Takinghall", name := "notice", desc := "(I)I" } : Jvm.MethodName)) ∈ wG := List.mem_filter.mpr ⟨List.mem_append_right _ (List.mem_of_getElem? (i := 497) (by decide +kernel)), by decide +kernel⟩
theorem kw_498 : (Jvm.Cond.instanceMethod ({ cls := "Takinghall", name := "notice", desc := "(I)I" } : Jvm.MethodName)) ∈ wG := List.mem_filter.mpr ⟨List.mem_append_right _ (List.mem_of_getElem? (i := 498) (by decide +kernel)), by decide +kernel⟩
theorem kw_499 : (Jvm.Cond.selects "Takinghall" ({ cls := "Takinghall", name := "notice", desc := "(I)I" } : Jvm.MethodName) ({ cls := "Takinghall", name := "notice", desc := "(I)I" } : Jvm.MethodName)) ∈ wG := List.mem_filter.mpr ⟨List.mem_append_right _ (List.mem_of_getElem? (i := 499) (by decide +kernel)), by decide +kernel⟩
theorem kw_500 : (Jvm.Cond.code ({ cls := "Takinghall", name := "notice", desc := "(I)I" } : Jvm.MethodName) prog_1_method_13_code (4 : Nat) (Option.some Jvm.ClassFile.FieldType.int)) ∈ wG := List.mem_filter.mpr ⟨List.mem_append_right _ (List.mem_of_getElem? (i := 500) (by decide +kernel)), by decide +kernel⟩
theorem kw_501 : (Jvm.Cond.methodLink "Takinghall" (237 : Nat) ({ cls := "Takinghall", name := "draftOfFreePlot", desc := "(LTakinghall$Plot;)LTakinghall$Scheme;" } : Jvm.MethodName)) ∈ wG := List.mem_filter.mpr ⟨List.mem_append_right _ (List.mem_of_getElem? (i := 501) (by decide +kernel)), by decide +kernel⟩
theorem kw_502 : (Jvm.Cond.static ({ cls := "Takinghall", name := "draftOfFreePlot", desc := "(LTakinghall$Plot;)LTakinghall$Scheme;" } : Jvm.MethodName)) ∈ wG := List.mem_filter.mpr ⟨List.mem_append_right _ (List.mem_of_getElem? (i := 502) (by decide +kernel)), by decide +kernel⟩
theorem kw_503 : (Jvm.Cond.code ({ cls := "Takinghall", name := "draftOfFreePlot", desc := "(LTakinghall$Plot;)LTakinghall$Scheme;" } : Jvm.MethodName) prog_1_method_52_code (2 : Nat) (Option.some (Jvm.ClassFile.FieldType.object "Takinghall$Scheme"))) ∈ wG := List.mem_filter.mpr ⟨List.mem_append_right _ (List.mem_of_getElem? (i := 503) (by decide +kernel)), by decide +kernel⟩
theorem kw_504 : (Jvm.Cond.methodLink "Takinghall" (370 : Nat) ({ cls := "Takinghall", name := "isFreeAndNeededBy", desc := "(LTakinghall$Plot;LTakinghall$Scheme;)Z" } : Jvm.MethodName)) ∈ wG := List.mem_filter.mpr ⟨List.mem_append_right _ (List.mem_of_getElem? (i := 504) (by decide +kernel)), by decide +kernel⟩
theorem kw_505 : (Jvm.Cond.static ({ cls := "Takinghall", name := "isFreeAndNeededBy", desc := "(LTakinghall$Plot;LTakinghall$Scheme;)Z" } : Jvm.MethodName)) ∈ wG := List.mem_filter.mpr ⟨List.mem_append_right _ (List.mem_of_getElem? (i := 505) (by decide +kernel)), by decide +kernel⟩
theorem kw_506 : (Jvm.Cond.code ({ cls := "Takinghall", name := "isFreeAndNeededBy", desc := "(LTakinghall$Plot;LTakinghall$Scheme;)Z" } : Jvm.MethodName) prog_1_method_51_code (2 : Nat) (Option.some Jvm.ClassFile.FieldType.boolean)) ∈ wG := List.mem_filter.mpr ⟨List.mem_append_right _ (List.mem_of_getElem? (i := 506) (by decide +kernel)), by decide +kernel⟩
theorem kw_508 : (Jvm.Cond.methodLink "TakinghallLaw" (162 : Nat) ({ cls := "TakinghallLaw", name := "object", desc := "(LTakinghall;I[J)I" } : Jvm.MethodName)) ∈ wG := List.mem_filter.mpr ⟨List.mem_append_right _ (List.mem_of_getElem? (i := 508) (by decide +kernel)), by decide +kernel⟩
theorem kw_509 : (Jvm.Cond.static ({ cls := "TakinghallLaw", name := "object", desc := "(LTakinghall;I[J)I" } : Jvm.MethodName)) ∈ wG := List.mem_filter.mpr ⟨List.mem_append_right _ (List.mem_of_getElem? (i := 509) (by decide +kernel)), by decide +kernel⟩
theorem kw_510 : (Jvm.Cond.codeWith ({ cls := "TakinghallLaw", name := "object", desc := "(LTakinghall;I[J)I" } : Jvm.MethodName) method_15_code (4 : Nat) (Option.some Jvm.ClassFile.FieldType.int) [((0 : Nat), (9 : Nat), (12 : Nat), (13 : Nat)), ((0 : Nat), (9 : Nat), (15 : Nat), (17 : Nat))]) ∈ wG := List.mem_filter.mpr ⟨List.mem_append_right _ (List.mem_of_getElem? (i := 510) (by decide +kernel)), by decide +kernel⟩
theorem kw_511 : (Jvm.Cond.methodLink "TakinghallLaw" (56 : Nat) ({ cls := "Takinghall", name := "object", desc := "(I)I" } : Jvm.MethodName)) ∈ wG := List.mem_filter.mpr ⟨List.mem_append_right _ (List.mem_of_getElem? (i := 511) (by decide +kernel)), by decide +kernel⟩
theorem kw_512 : (Jvm.Cond.instanceMethod ({ cls := "Takinghall", name := "object", desc := "(I)I" } : Jvm.MethodName)) ∈ wG := List.mem_filter.mpr ⟨List.mem_append_right _ (List.mem_of_getElem? (i := 512) (by decide +kernel)), by decide +kernel⟩
theorem kw_513 : (Jvm.Cond.selects "Takinghall" ({ cls := "Takinghall", name := "object", desc := "(I)I" } : Jvm.MethodName) ({ cls := "Takinghall", name := "object", desc := "(I)I" } : Jvm.MethodName)) ∈ wG := List.mem_filter.mpr ⟨List.mem_append_right _ (List.mem_of_getElem? (i := 513) (by decide +kernel)), by decide +kernel⟩
theorem kw_514 : (Jvm.Cond.code ({ cls := "Takinghall", name := "object", desc := "(I)I" } : Jvm.MethodName) prog_1_method_14_code (4 : Nat) (Option.some Jvm.ClassFile.FieldType.int)) ∈ wG := List.mem_filter.mpr ⟨List.mem_append_right _ (List.mem_of_getElem? (i := 514) (by decide +kernel)), by decide +kernel⟩
theorem kw_516 : (Jvm.Cond.methodLink "Takinghall" (248 : Nat) ({ cls := "Takinghall", name := "countOpenObjections", desc := "(LTakinghall$Scheme;)I" } : Jvm.MethodName)) ∈ wG := List.mem_filter.mpr ⟨List.mem_append_right _ (List.mem_of_getElem? (i := 516) (by decide +kernel)), by decide +kernel⟩
theorem kw_518 : (Jvm.Cond.instanceMethod ({ cls := "Takinghall", name := "countOpenObjections", desc := "(LTakinghall$Scheme;)I" } : Jvm.MethodName)) ∈ wG := List.mem_filter.mpr ⟨List.mem_append_right _ (List.mem_of_getElem? (i := 518) (by decide +kernel)), by decide +kernel⟩
theorem kw_519 : (Jvm.Cond.code ({ cls := "Takinghall", name := "countOpenObjections", desc := "(LTakinghall$Scheme;)I" } : Jvm.MethodName) prog_1_method_56_code (7 : Nat) (Option.some Jvm.ClassFile.FieldType.int)) ∈ wG := List.mem_filter.mpr ⟨List.mem_append_right _ (List.mem_of_getElem? (i := 519) (by decide +kernel)), by decide +kernel⟩
theorem kw_520 : (Jvm.Cond.methodLink "TakinghallLaw" (165 : Nat) ({ cls := "TakinghallLaw", name := "hear", desc := "(LTakinghall;IZ[J)I" } : Jvm.MethodName)) ∈ wG := List.mem_filter.mpr ⟨List.mem_append_right _ (List.mem_of_getElem? (i := 520) (by decide +kernel)), by decide +kernel⟩
theorem kw_521 : (Jvm.Cond.static ({ cls := "TakinghallLaw", name := "hear", desc := "(LTakinghall;IZ[J)I" } : Jvm.MethodName)) ∈ wG := List.mem_filter.mpr ⟨List.mem_append_right _ (List.mem_of_getElem? (i := 521) (by decide +kernel)), by decide +kernel⟩
theorem kw_522 : (Jvm.Cond.codeWith ({ cls := "TakinghallLaw", name := "hear", desc := "(LTakinghall;IZ[J)I" } : Jvm.MethodName) method_16_code (5 : Nat) (Option.some Jvm.ClassFile.FieldType.int) [((0 : Nat), (10 : Nat), (13 : Nat), (13 : Nat)), ((0 : Nat), (10 : Nat), (17 : Nat), (17 : Nat))]) ∈ wG := List.mem_filter.mpr ⟨List.mem_append_right _ (List.mem_of_getElem? (i := 522) (by decide +kernel)), by decide +kernel⟩
theorem kw_523 : (Jvm.Cond.methodLink "TakinghallLaw" (59 : Nat) ({ cls := "Takinghall", name := "hear", desc := "(IZ)I" } : Jvm.MethodName)) ∈ wG := List.mem_filter.mpr ⟨List.mem_append_right _ (List.mem_of_getElem? (i := 523) (by decide +kernel)), by decide +kernel⟩
theorem kw_524 : (Jvm.Cond.instanceMethod ({ cls := "Takinghall", name := "hear", desc := "(IZ)I" } : Jvm.MethodName)) ∈ wG := List.mem_filter.mpr ⟨List.mem_append_right _ (List.mem_of_getElem? (i := 524) (by decide +kernel)), by decide +kernel⟩
theorem kw_525 : (Jvm.Cond.selects "Takinghall" ({ cls := "Takinghall", name := "hear", desc := "(IZ)I" } : Jvm.MethodName) ({ cls := "Takinghall", name := "hear", desc := "(IZ)I" } : Jvm.MethodName)) ∈ wG := List.mem_filter.mpr ⟨List.mem_append_right _ (List.mem_of_getElem? (i := 525) (by decide +kernel)), by decide +kernel⟩
theorem kw_526 : (Jvm.Cond.code ({ cls := "Takinghall", name := "hear", desc := "(IZ)I" } : Jvm.MethodName) prog_1_method_15_code (5 : Nat) (Option.some Jvm.ClassFile.FieldType.int)) ∈ wG := List.mem_filter.mpr ⟨List.mem_append_right _ (List.mem_of_getElem? (i := 526) (by decide +kernel)), by decide +kernel⟩
theorem kw_528 : (Jvm.Cond.methodLink "Takinghall" (253 : Nat) ({ cls := "Takinghall", name := "release", desc := "(LTakinghall$Plot;)V" } : Jvm.MethodName)) ∈ wG := List.mem_filter.mpr ⟨List.mem_append_right _ (List.mem_of_getElem? (i := 528) (by decide +kernel)), by decide +kernel⟩
theorem kw_530 : (Jvm.Cond.instanceMethod ({ cls := "Takinghall", name := "release", desc := "(LTakinghall$Plot;)V" } : Jvm.MethodName)) ∈ wG := List.mem_filter.mpr ⟨List.mem_append_right _ (List.mem_of_getElem? (i := 530) (by decide +kernel)), by decide +kernel⟩
theorem kw_531 : (Jvm.Cond.code ({ cls := "Takinghall", name := "release", desc := "(LTakinghall$Plot;)V" } : Jvm.MethodName) prog_1_method_59_code (6 : Nat) (Option.none : Option Jvm.ClassFile.FieldType)) ∈ wG := List.mem_filter.mpr ⟨List.mem_append_right _ (List.mem_of_getElem? (i := 531) (by decide +kernel)), by decide +kernel⟩
theorem kw_532 : (Jvm.Cond.methodLink "TakinghallLaw" (169 : Nat) ({ cls := "TakinghallLaw", name := "confirm", desc := "(LTakinghall;I[J)I" } : Jvm.MethodName)) ∈ wG := List.mem_filter.mpr ⟨List.mem_append_right _ (List.mem_of_getElem? (i := 532) (by decide +kernel)), by decide +kernel⟩
theorem kw_533 : (Jvm.Cond.static ({ cls := "TakinghallLaw", name := "confirm", desc := "(LTakinghall;I[J)I" } : Jvm.MethodName)) ∈ wG := List.mem_filter.mpr ⟨List.mem_append_right _ (List.mem_of_getElem? (i := 533) (by decide +kernel)), by decide +kernel⟩
theorem kw_534 : (Jvm.Cond.codeWith ({ cls := "TakinghallLaw", name := "confirm", desc := "(LTakinghall;I[J)I" } : Jvm.MethodName) method_17_code (4 : Nat) (Option.some Jvm.ClassFile.FieldType.int) [((0 : Nat), (9 : Nat), (12 : Nat), (13 : Nat)), ((0 : Nat), (9 : Nat), (15 : Nat), (17 : Nat))]) ∈ wG := List.mem_filter.mpr ⟨List.mem_append_right _ (List.mem_of_getElem? (i := 534) (by decide +kernel)), by decide +kernel⟩
theorem kw_535 : (Jvm.Cond.methodLink "TakinghallLaw" (63 : Nat) ({ cls := "Takinghall", name := "confirm", desc := "(I)I" } : Jvm.MethodName)) ∈ wG := List.mem_filter.mpr ⟨List.mem_append_right _ (List.mem_of_getElem? (i := 535) (by decide +kernel)), by decide +kernel⟩
theorem kw_536 : (Jvm.Cond.instanceMethod ({ cls := "Takinghall", name := "confirm", desc := "(I)I" } : Jvm.MethodName)) ∈ wG := List.mem_filter.mpr ⟨List.mem_append_right _ (List.mem_of_getElem? (i := 536) (by decide +kernel)), by decide +kernel⟩
theorem kw_537 : (Jvm.Cond.selects "Takinghall" ({ cls := "Takinghall", name := "confirm", desc := "(I)I" } : Jvm.MethodName) ({ cls := "Takinghall", name := "confirm", desc := "(I)I" } : Jvm.MethodName)) ∈ wG := List.mem_filter.mpr ⟨List.mem_append_right _ (List.mem_of_getElem? (i := 537) (by decide +kernel)), by decide +kernel⟩
theorem kw_538 : (Jvm.Cond.code ({ cls := "Takinghall", name := "confirm", desc := "(I)I" } : Jvm.MethodName) prog_1_method_16_code (4 : Nat) (Option.some Jvm.ClassFile.FieldType.int)) ∈ wG := List.mem_filter.mpr ⟨List.mem_append_right _ (List.mem_of_getElem? (i := 538) (by decide +kernel)), by decide +kernel⟩
theorem kw_540 : (Jvm.Cond.methodLink "Takinghall" (259 : Nat) ({ cls := "Takinghall", name := "countFreeNeeded", desc := "(LTakinghall$Scheme;)I" } : Jvm.MethodName)) ∈ wG := List.mem_filter.mpr ⟨List.mem_append_right _ (List.mem_of_getElem? (i := 540) (by decide +kernel)), by decide +kernel⟩
theorem kw_542 : (Jvm.Cond.instanceMethod ({ cls := "Takinghall", name := "countFreeNeeded", desc := "(LTakinghall$Scheme;)I" } : Jvm.MethodName)) ∈ wG := List.mem_filter.mpr ⟨List.mem_append_right _ (List.mem_of_getElem? (i := 542) (by decide +kernel)), by decide +kernel⟩
theorem kw_543 : (Jvm.Cond.code ({ cls := "Takinghall", name := "countFreeNeeded", desc := "(LTakinghall$Scheme;)I" } : Jvm.MethodName) prog_1_method_54_code (7 : Nat) (Option.some Jvm.ClassFile.FieldType.int)) ∈ wG := List.mem_filter.mpr ⟨List.mem_append_right _ (List.mem_of_getElem? (i := 543) (by decide +kernel)), by decide +kernel⟩
theorem kw_545 : (Jvm.Cond.methodLink "Takinghall" (264 : Nat) ({ cls := "Takinghall", name := "lowestThatStops", desc := "(LTakinghall$Scheme;)LTakinghall$Interest;" } : Jvm.MethodName)) ∈ wG := List.mem_filter.mpr ⟨List.mem_append_right _ (List.mem_of_getElem? (i := 545) (by decide +kernel)), by decide +kernel⟩
theorem kw_547 : (Jvm.Cond.instanceMethod ({ cls := "Takinghall", name := "lowestThatStops", desc := "(LTakinghall$Scheme;)LTakinghall$Interest;" } : Jvm.MethodName)) ∈ wG := List.mem_filter.mpr ⟨List.mem_append_right _ (List.mem_of_getElem? (i := 547) (by decide +kernel)), by decide +kernel⟩
theorem kw_548 : (Jvm.Cond.code ({ cls := "Takinghall", name := "lowestThatStops", desc := "(LTakinghall$Scheme;)LTakinghall$Interest;" } : Jvm.MethodName) prog_1_method_57_code (6 : Nat) (Option.some (Jvm.ClassFile.FieldType.object "Takinghall$Interest"))) ∈ wG := List.mem_filter.mpr ⟨List.mem_append_right _ (List.mem_of_getElem? (i := 548) (by decide +kernel)), by decide +kernel⟩
theorem kw_549 : (Jvm.Cond.methodLink "Takinghall" (373 : Nat) ({ cls := "Takinghall", name := "stops", desc := "(LTakinghall$Interest;)Z" } : Jvm.MethodName)) ∈ wG := List.mem_filter.mpr ⟨List.mem_append_right _ (List.mem_of_getElem? (i := 549) (by decide +kernel)), by decide +kernel⟩
theorem kw_551 : (Jvm.Cond.instanceMethod ({ cls := "Takinghall", name := "stops", desc := "(LTakinghall$Interest;)Z" } : Jvm.MethodName)) ∈ wG := List.mem_filter.mpr ⟨List.mem_append_right _ (List.mem_of_getElem? (i := 551) (by decide +kernel)), by decide +kernel⟩
theorem kw_552 : (Jvm.Cond.code ({ cls := "Takinghall", name := "stops", desc := "(LTakinghall$Interest;)Z" } : Jvm.MethodName) prog_1_method_58_code (2 : Nat) (Option.some Jvm.ClassFile.FieldType.boolean)) ∈ wG := List.mem_filter.mpr ⟨List.mem_append_right _ (List.mem_of_getElem? (i := 552) (by decide +kernel)), by decide +kernel⟩
theorem kw_553 : (Jvm.Cond.methodLink "Takinghall" (377 : Nat) ({ cls := "Takinghall", name := "isOver", desc := "(LTakinghall$Interest;I)Z" } : Jvm.MethodName)) ∈ wG := List.mem_filter.mpr ⟨List.mem_append_right _ (List.mem_of_getElem? (i := 553) (by decide +kernel)), by decide +kernel⟩
theorem kw_554 : (Jvm.Cond.static ({ cls := "Takinghall", name := "isOver", desc := "(LTakinghall$Interest;I)Z" } : Jvm.MethodName)) ∈ wG := List.mem_filter.mpr ⟨List.mem_append_right _ (List.mem_of_getElem? (i := 554) (by decide +kernel)), by decide +kernel⟩
theorem kw_555 : (Jvm.Cond.code ({ cls := "Takinghall", name := "isOver", desc := "(LTakinghall$Interest;I)Z" } : Jvm.MethodName) prog_1_method_64_code (2 : Nat) (Option.some Jvm.ClassFile.FieldType.boolean)) ∈ wG := List.mem_filter.mpr ⟨List.mem_append_right _ (List.mem_of_getElem? (i := 555) (by decide +kernel)), by decide +kernel⟩
theorem kw_557 : (Jvm.Cond.methodLink "TakinghallLaw" (172 : Nat) ({ cls := "TakinghallLaw", name := "whoStops", desc := "(LTakinghall;I[J)I" } : Jvm.MethodName)) ∈ wG := List.mem_filter.mpr ⟨List.mem_append_right _ (List.mem_of_getElem? (i := 557) (by decide +kernel)), by decide +kernel⟩
theorem kw_558 : (Jvm.Cond.static ({ cls := "TakinghallLaw", name := "whoStops", desc := "(LTakinghall;I[J)I" } : Jvm.MethodName)) ∈ wG := List.mem_filter.mpr ⟨List.mem_append_right _ (List.mem_of_getElem? (i := 558) (by decide +kernel)), by decide +kernel⟩
theorem kw_559 : (Jvm.Cond.codeWith ({ cls := "TakinghallLaw", name := "whoStops", desc := "(LTakinghall;I[J)I" } : Jvm.MethodName) method_18_code (4 : Nat) (Option.some Jvm.ClassFile.FieldType.int) [((0 : Nat), (9 : Nat), (12 : Nat), (13 : Nat))]) ∈ wG := List.mem_filter.mpr ⟨List.mem_append_right _ (List.mem_of_getElem? (i := 559) (by decide +kernel)), by decide +kernel⟩
theorem kw_560 : (Jvm.Cond.methodLink "TakinghallLaw" (66 : Nat) ({ cls := "Takinghall", name := "whoStops", desc := "(I)I" } : Jvm.MethodName)) ∈ wG := List.mem_filter.mpr ⟨List.mem_append_right _ (List.mem_of_getElem? (i := 560) (by decide +kernel)), by decide +kernel⟩
theorem kw_561 : (Jvm.Cond.instanceMethod ({ cls := "Takinghall", name := "whoStops", desc := "(I)I" } : Jvm.MethodName)) ∈ wG := List.mem_filter.mpr ⟨List.mem_append_right _ (List.mem_of_getElem? (i := 561) (by decide +kernel)), by decide +kernel⟩
theorem kw_562 : (Jvm.Cond.selects "Takinghall" ({ cls := "Takinghall", name := "whoStops", desc := "(I)I" } : Jvm.MethodName) ({ cls := "Takinghall", name := "whoStops", desc := "(I)I" } : Jvm.MethodName)) ∈ wG := List.mem_filter.mpr ⟨List.mem_append_right _ (List.mem_of_getElem? (i := 562) (by decide +kernel)), by decide +kernel⟩
theorem kw_563 : (Jvm.Cond.code ({ cls := "Takinghall", name := "whoStops", desc := "(I)I" } : Jvm.MethodName) prog_1_method_17_code (3 : Nat) (Option.some Jvm.ClassFile.FieldType.int)) ∈ wG := List.mem_filter.mpr ⟨List.mem_append_right _ (List.mem_of_getElem? (i := 563) (by decide +kernel)), by decide +kernel⟩
theorem kw_564 : (Jvm.Cond.methodLink "TakinghallLaw" (175 : Nat) ({ cls := "TakinghallLaw", name := "drop", desc := "(LTakinghall;I[J)I" } : Jvm.MethodName)) ∈ wG := List.mem_filter.mpr ⟨List.mem_append_right _ (List.mem_of_getElem? (i := 564) (by decide +kernel)), by decide +kernel⟩
theorem kw_565 : (Jvm.Cond.static ({ cls := "TakinghallLaw", name := "drop", desc := "(LTakinghall;I[J)I" } : Jvm.MethodName)) ∈ wG := List.mem_filter.mpr ⟨List.mem_append_right _ (List.mem_of_getElem? (i := 565) (by decide +kernel)), by decide +kernel⟩
theorem kw_566 : (Jvm.Cond.codeWith ({ cls := "TakinghallLaw", name := "drop", desc := "(LTakinghall;I[J)I" } : Jvm.MethodName) method_19_code (4 : Nat) (Option.some Jvm.ClassFile.FieldType.int) [((0 : Nat), (9 : Nat), (12 : Nat), (13 : Nat)), ((0 : Nat), (9 : Nat), (15 : Nat), (17 : Nat))]) ∈ wG := List.mem_filter.mpr ⟨List.mem_append_right _ (List.mem_of_getElem? (i := 566) (by decide +kernel)), by decide +kernel⟩
theorem kw_567 : (Jvm.Cond.methodLink "TakinghallLaw" (69 : Nat) ({ cls := "Takinghall", name := "drop", desc := "(I)I" } : Jvm.MethodName)) ∈ wG := List.mem_filter.mpr ⟨List.mem_append_right _ (List.mem_of_getElem? (i := 567) (by decide +kernel)), by decide +kernel⟩
theorem kw_568 : (Jvm.Cond.instanceMethod ({ cls := "Takinghall", name := "drop", desc := "(I)I" } : Jvm.MethodName)) ∈ wG := List.mem_filter.mpr ⟨List.mem_append_right _ (List.mem_of_getElem? (i := 568) (by decide +kernel)), by decide +kernel⟩
theorem kw_569 : (Jvm.Cond.selects "Takinghall" ({ cls := "Takinghall", name := "drop", desc := "(I)I" } : Jvm.MethodName) ({ cls := "Takinghall", name := "drop", desc := "(I)I" } : Jvm.MethodName)) ∈ wG := List.mem_filter.mpr ⟨List.mem_append_right _ (List.mem_of_getElem? (i := 569) (by decide +kernel)), by decide +kernel⟩
theorem kw_570 : (Jvm.Cond.code ({ cls := "Takinghall", name := "drop", desc := "(I)I" } : Jvm.MethodName) prog_1_method_18_code (8 : Nat) (Option.some Jvm.ClassFile.FieldType.int)) ∈ wG := List.mem_filter.mpr ⟨List.mem_append_right _ (List.mem_of_getElem? (i := 570) (by decide +kernel)), by decide +kernel⟩
theorem kw_572 : (Jvm.Cond.methodLink "Takinghall" (279 : Nat) ({ cls := "Takinghall", name := "letGo", desc := "(LTakinghall$Plot;)Z" } : Jvm.MethodName)) ∈ wG := List.mem_filter.mpr ⟨List.mem_append_right _ (List.mem_of_getElem? (i := 572) (by decide +kernel)), by decide +kernel⟩
theorem kw_574 : (Jvm.Cond.instanceMethod ({ cls := "Takinghall", name := "letGo", desc := "(LTakinghall$Plot;)Z" } : Jvm.MethodName)) ∈ wG := List.mem_filter.mpr ⟨List.mem_append_right _ (List.mem_of_getElem? (i := 574) (by decide +kernel)), by decide +kernel⟩
theorem kw_575 : (Jvm.Cond.code ({ cls := "Takinghall", name := "letGo", desc := "(LTakinghall$Plot;)Z" } : Jvm.MethodName) prog_1_method_60_code (2 : Nat) (Option.some Jvm.ClassFile.FieldType.boolean)) ∈ wG := List.mem_filter.mpr ⟨List.mem_append_right _ (List.mem_of_getElem? (i := 575) (by decide +kernel)), by decide +kernel⟩
theorem kw_576 : (Jvm.Cond.methodLink "Takinghall" (333 : Nat) ({ cls := "Takinghall", name := "ownerBehind", desc := "(LTakinghall$Plot;LTakinghall$Interest;)LTakinghall$Interest;" } : Jvm.MethodName)) ∈ wG := List.mem_filter.mpr ⟨List.mem_append_right _ (List.mem_of_getElem? (i := 576) (by decide +kernel)), by decide +kernel⟩
theorem kw_578 : (Jvm.Cond.instanceMethod ({ cls := "Takinghall", name := "ownerBehind", desc := "(LTakinghall$Plot;LTakinghall$Interest;)LTakinghall$Interest;" } : Jvm.MethodName)) ∈ wG := List.mem_filter.mpr ⟨List.mem_append_right _ (List.mem_of_getElem? (i := 578) (by decide +kernel)), by decide +kernel⟩
theorem kw_579 : (Jvm.Cond.code ({ cls := "Takinghall", name := "ownerBehind", desc := "(LTakinghall$Plot;LTakinghall$Interest;)LTakinghall$Interest;" } : Jvm.MethodName) prog_1_method_77_code (8 : Nat) (Option.some (Jvm.ClassFile.FieldType.object "Takinghall$Interest"))) ∈ wG := List.mem_filter.mpr ⟨List.mem_append_right _ (List.mem_of_getElem? (i := 579) (by decide +kernel)), by decide +kernel⟩
theorem kw_580 : (Jvm.Cond.methodLink "Takinghall" (434 : Nat) ({ cls := "Takinghall", name := "comesBehind", desc := "(LTakinghall$Interest;LTakinghall$Interest;)Z" } : Jvm.MethodName)) ∈ wG := List.mem_filter.mpr ⟨List.mem_append_right _ (List.mem_of_getElem? (i := 580) (by decide +kernel)), by decide +kernel⟩
theorem kw_581 : (Jvm.Cond.static ({ cls := "Takinghall", name := "comesBehind", desc := "(LTakinghall$Interest;LTakinghall$Interest;)Z" } : Jvm.MethodName)) ∈ wG := List.mem_filter.mpr ⟨List.mem_append_right _ (List.mem_of_getElem? (i := 581) (by decide +kernel)), by decide +kernel⟩
theorem kw_582 : (Jvm.Cond.code ({ cls := "Takinghall", name := "comesBehind", desc := "(LTakinghall$Interest;LTakinghall$Interest;)Z" } : Jvm.MethodName) prog_1_method_78_code (2 : Nat) (Option.some Jvm.ClassFile.FieldType.boolean)) ∈ wG := List.mem_filter.mpr ⟨List.mem_append_right _ (List.mem_of_getElem? (i := 582) (by decide +kernel)), by decide +kernel⟩
theorem kw_583 : (Jvm.Cond.methodLink "Takinghall" (337 : Nat) ({ cls := "Takinghall", name := "offer", desc := "(LTakinghall$Plot;LTakinghall$Interest;I)V" } : Jvm.MethodName)) ∈ wG := List.mem_filter.mpr ⟨List.mem_append_right _ (List.mem_of_getElem? (i := 583) (by decide +kernel)), by decide +kernel⟩
theorem kw_584 : (Jvm.Cond.static ({ cls := "Takinghall", name := "offer", desc := "(LTakinghall$Plot;LTakinghall$Interest;I)V" } : Jvm.MethodName)) ∈ wG := List.mem_filter.mpr ⟨List.mem_append_right _ (List.mem_of_getElem? (i := 584) (by decide +kernel)), by decide +kernel⟩
theorem kw_585 : (Jvm.Cond.code ({ cls := "Takinghall", name := "offer", desc := "(LTakinghall$Plot;LTakinghall$Interest;I)V" } : Jvm.MethodName) prog_1_method_76_code (3 : Nat) (Option.none : Option Jvm.ClassFile.FieldType)) ∈ wG := List.mem_filter.mpr ⟨List.mem_append_right _ (List.mem_of_getElem? (i := 585) (by decide +kernel)), by decide +kernel⟩
theorem kw_586 : (Jvm.Cond.methodLink "TakinghallLaw" (178 : Nat) ({ cls := "TakinghallLaw", name := "schemeOf", desc := "(LTakinghall;II[J)I" } : Jvm.MethodName)) ∈ wG := List.mem_filter.mpr ⟨List.mem_append_right _ (List.mem_of_getElem? (i := 586) (by decide +kernel)), by decide +kernel⟩
theorem kw_587 : (Jvm.Cond.static ({ cls := "TakinghallLaw", name := "schemeOf", desc := "(LTakinghall;II[J)I" } : Jvm.MethodName)) ∈ wG := List.mem_filter.mpr ⟨List.mem_append_right _ (List.mem_of_getElem? (i := 587) (by decide +kernel)), by decide +kernel⟩
theorem kw_588 : (Jvm.Cond.codeWith ({ cls := "TakinghallLaw", name := "schemeOf", desc := "(LTakinghall;II[J)I" } : Jvm.MethodName) method_20_code (5 : Nat) (Option.some Jvm.ClassFile.FieldType.int) [((0 : Nat), (10 : Nat), (13 : Nat), (13 : Nat)), ((0 : Nat), (10 : Nat), (17 : Nat), (15 : Nat))]) ∈ wG := List.mem_filter.mpr ⟨List.mem_append_right _ (List.mem_of_getElem? (i := 588) (by decide +kernel)), by decide +kernel⟩
theorem kw_589 : (Jvm.Cond.methodLink "TakinghallLaw" (72 : Nat) ({ cls := "Takinghall", name := "schemeOf", desc := "(II)I" } : Jvm.MethodName)) ∈ wG := List.mem_filter.mpr ⟨List.mem_append_right _ (List.mem_of_getElem? (i := 589) (by decide +kernel)), by decide +kernel⟩
theorem kw_590 : (Jvm.Cond.instanceMethod ({ cls := "Takinghall", name := "schemeOf", desc := "(II)I" } : Jvm.MethodName)) ∈ wG := List.mem_filter.mpr ⟨List.mem_append_right _ (List.mem_of_getElem? (i := 590) (by decide +kernel)), by decide +kernel⟩
theorem kw_591 : (Jvm.Cond.selects "Takinghall" ({ cls := "Takinghall", name := "schemeOf", desc := "(II)I" } : Jvm.MethodName) ({ cls := "Takinghall", name := "schemeOf", desc := "(II)I" } : Jvm.MethodName)) ∈ wG := List.mem_filter.mpr ⟨List.mem_append_right _ (List.mem_of_getElem? (i := 591) (by decide +kernel)), by decide +kernel⟩
theorem kw_592 : (Jvm.Cond.code ({ cls := "Takinghall", name := "schemeOf", desc := "(II)I" } : Jvm.MethodName) prog_1_method_19_code (4 : Nat) (Option.some Jvm.ClassFile.FieldType.int)) ∈ wG := List.mem_filter.mpr ⟨List.mem_append_right _ (List.mem_of_getElem? (i := 592) (by decide +kernel)), by decide +kernel⟩
theorem kw_593 : (Jvm.Cond.methodLink "TakinghallLaw" (181 : Nat) ({ cls := "TakinghallLaw", name := "enter", desc := "(LTakinghall;I[J)I" } : Jvm.MethodName)) ∈ wG := List.mem_filter.mpr ⟨List.mem_append_right _ (List.mem_of_getElem? (i := 593) (by decide +kernel)), by decide +kernel⟩
theorem kw_594 : (Jvm.Cond.static ({ cls := "TakinghallLaw", name := "enter", desc := "(LTakinghall;I[J)I" } : Jvm.MethodName)) ∈ wG := List.mem_filter.mpr ⟨List.mem_append_right _ (List.mem_of_getElem? (i := 594) (by decide +kernel)), by decide +kernel⟩
theorem kw_595 : (Jvm.Cond.codeWith ({ cls := "TakinghallLaw", name := "enter", desc := "(LTakinghall;I[J)I" } : Jvm.MethodName) method_21_code (4 : Nat) (Option.some Jvm.ClassFile.FieldType.int) [((0 : Nat), (9 : Nat), (12 : Nat), (13 : Nat)), ((0 : Nat), (9 : Nat), (15 : Nat), (17 : Nat))]) ∈ wG := List.mem_filter.mpr ⟨List.mem_append_right _ (List.mem_of_getElem? (i := 595) (by decide +kernel)), by decide +kernel⟩
theorem kw_596 : (Jvm.Cond.methodLink "TakinghallLaw" (75 : Nat) ({ cls := "Takinghall", name := "enter", desc := "(I)I" } : Jvm.MethodName)) ∈ wG := List.mem_filter.mpr ⟨List.mem_append_right _ (List.mem_of_getElem? (i := 596) (by decide +kernel)), by decide +kernel⟩
theorem kw_597 : (Jvm.Cond.instanceMethod ({ cls := "Takinghall", name := "enter", desc := "(I)I" } : Jvm.MethodName)) ∈ wG := List.mem_filter.mpr ⟨List.mem_append_right _ (List.mem_of_getElem? (i := 597) (by decide +kernel)), by decide +kernel⟩
theorem kw_598 : (Jvm.Cond.selects "Takinghall" ({ cls := "Takinghall", name := "enter", desc := "(I)I" } : Jvm.MethodName) ({ cls := "Takinghall", name := "enter", desc := "(I)I" } : Jvm.MethodName)) ∈ wG := List.mem_filter.mpr ⟨List.mem_append_right _ (List.mem_of_getElem? (i := 598) (by decide +kernel)), by decide +kernel⟩
theorem kw_599 : (Jvm.Cond.code ({ cls := "Takinghall", name := "enter", desc := "(I)I" } : Jvm.MethodName) prog_1_method_20_code (4 : Nat) (Option.some Jvm.ClassFile.FieldType.int)) ∈ wG := List.mem_filter.mpr ⟨List.mem_append_right _ (List.mem_of_getElem? (i := 599) (by decide +kernel)), by decide +kernel⟩
theorem kw_601 : (Jvm.Cond.methodLink "Takinghall" (287 : Nat) ({ cls := "Takinghall", name := "take", desc := "(LTakinghall$Plot;)I" } : Jvm.MethodName)) ∈ wG := List.mem_filter.mpr ⟨List.mem_append_right _ (List.mem_of_getElem? (i := 601) (by decide +kernel)), by decide +kernel⟩
theorem kw_603 : (Jvm.Cond.instanceMethod ({ cls := "Takinghall", name := "take", desc := "(LTakinghall$Plot;)I" } : Jvm.MethodName)) ∈ wG := List.mem_filter.mpr ⟨List.mem_append_right _ (List.mem_of_getElem? (i := 603) (by decide +kernel)), by decide +kernel⟩
theorem kw_604 : (Jvm.Cond.code ({ cls := "Takinghall", name := "take", desc := "(LTakinghall$Plot;)I" } : Jvm.MethodName) prog_1_method_66_code (7 : Nat) (Option.some Jvm.ClassFile.FieldType.int)) ∈ wG := List.mem_filter.mpr ⟨List.mem_append_right _ (List.mem_of_getElem? (i := 604) (by decide +kernel)), by decide +kernel⟩
theorem kw_605 : (Jvm.Cond.methodLink "Takinghall" (303 : Nat) ({ cls := "Takinghall", name := "landOf", desc := "(LTakinghall$Plot;)I" } : Jvm.MethodName)) ∈ wG := List.mem_filter.mpr ⟨List.mem_append_right _ (List.mem_of_getElem? (i := 605) (by decide +kernel)), by decide +kernel⟩
theorem kw_606 : (Jvm.Cond.static ({ cls := "Takinghall", name := "landOf", desc := "(LTakinghall$Plot;)I" } : Jvm.MethodName)) ∈ wG := List.mem_filter.mpr ⟨List.mem_append_right _ (List.mem_of_getElem? (i := 606) (by decide +kernel)), by decide +kernel⟩
theorem kw_607 : (Jvm.Cond.code ({ cls := "Takinghall", name := "landOf", desc := "(LTakinghall$Plot;)I" } : Jvm.MethodName) prog_1_method_67_code (6 : Nat) (Option.some Jvm.ClassFile.FieldType.int)) ∈ wG := List.mem_filter.mpr ⟨List.mem_append_right _ (List.mem_of_getElem? (i := 607) (by decide +kernel)), by decide +kernel⟩
theorem kw_608 : (Jvm.Cond.methodLink "Takinghall" (400 : Nat) ({ cls := "java/lang/Math", name := "max", desc := "(II)I" } : Jvm.MethodName)) ∈ wG := List.mem_filter.mpr ⟨List.mem_append_right _ (List.mem_of_getElem? (i := 608) (by decide +kernel)), by decide +kernel⟩
theorem kw_609 : (Jvm.Cond.static ({ cls := "java/lang/Math", name := "max", desc := "(II)I" } : Jvm.MethodName)) ∈ wG := List.mem_filter.mpr ⟨List.mem_append_right _ (List.mem_of_getElem? (i := 609) (by decide +kernel)), by decide +kernel⟩
theorem kw_610 : (Jvm.Cond.code ({ cls := "java/lang/Math", name := "max", desc := "(II)I" } : Jvm.MethodName) prog_12_method_65_code (2 : Nat) (Option.some Jvm.ClassFile.FieldType.int)) ∈ wG := List.mem_filter.mpr ⟨List.mem_append_right _ (List.mem_of_getElem? (i := 610) (by decide +kernel)), by decide +kernel⟩
theorem kw_611 : (Jvm.Cond.methodLink "Takinghall" (306 : Nat) ({ cls := "Takinghall", name := "sumBy", desc := "(LTakinghall$Interest;I)J" } : Jvm.MethodName)) ∈ wG := List.mem_filter.mpr ⟨List.mem_append_right _ (List.mem_of_getElem? (i := 611) (by decide +kernel)), by decide +kernel⟩
theorem kw_613 : (Jvm.Cond.instanceMethod ({ cls := "Takinghall", name := "sumBy", desc := "(LTakinghall$Interest;I)J" } : Jvm.MethodName)) ∈ wG := List.mem_filter.mpr ⟨List.mem_append_right _ (List.mem_of_getElem? (i := 613) (by decide +kernel)), by decide +kernel⟩
theorem kw_614 : (Jvm.Cond.code ({ cls := "Takinghall", name := "sumBy", desc := "(LTakinghall$Interest;I)J" } : Jvm.MethodName) prog_1_method_68_code (3 : Nat) (Option.some Jvm.ClassFile.FieldType.long)) ∈ wG := List.mem_filter.mpr ⟨List.mem_append_right _ (List.mem_of_getElem? (i := 614) (by decide +kernel)), by decide +kernel⟩
theorem kw_615 : (Jvm.Cond.methodLink "Takinghall" (405 : Nat) ({ cls := "Takinghall", name := "ownerSum", desc := "(LTakinghall$Interest;LTakinghall$Plot;I)I" } : Jvm.MethodName)) ∈ wG := List.mem_filter.mpr ⟨List.mem_append_right _ (List.mem_of_getElem? (i := 615) (by decide +kernel)), by decide +kernel⟩
theorem kw_617 : (Jvm.Cond.instanceMethod ({ cls := "Takinghall", name := "ownerSum", desc := "(LTakinghall$Interest;LTakinghall$Plot;I)I" } : Jvm.MethodName)) ∈ wG := List.mem_filter.mpr ⟨List.mem_append_right _ (List.mem_of_getElem? (i := 617) (by decide +kernel)), by decide +kernel⟩
theorem kw_618 : (Jvm.Cond.code ({ cls := "Takinghall", name := "ownerSum", desc := "(LTakinghall$Interest;LTakinghall$Plot;I)I" } : Jvm.MethodName) prog_1_method_69_code (6 : Nat) (Option.some Jvm.ClassFile.FieldType.int)) ∈ wG := List.mem_filter.mpr ⟨List.mem_append_right _ (List.mem_of_getElem? (i := 618) (by decide +kernel)), by decide +kernel⟩
theorem kw_619 : (Jvm.Cond.methodLink "Takinghall" (413 : Nat) ({ cls := "Takinghall", name := "leftBehindCharges", desc := "(LTakinghall$Plot;II)I" } : Jvm.MethodName)) ∈ wG := List.mem_filter.mpr ⟨List.mem_append_right _ (List.mem_of_getElem? (i := 619) (by decide +kernel)), by decide +kernel⟩
theorem kw_621 : (Jvm.Cond.instanceMethod ({ cls := "Takinghall", name := "leftBehindCharges", desc := "(LTakinghall$Plot;II)I" } : Jvm.MethodName)) ∈ wG := List.mem_filter.mpr ⟨List.mem_append_right _ (List.mem_of_getElem? (i := 621) (by decide +kernel)), by decide +kernel⟩
theorem kw_622 : (Jvm.Cond.code ({ cls := "Takinghall", name := "leftBehindCharges", desc := "(LTakinghall$Plot;II)I" } : Jvm.MethodName) prog_1_method_71_code (9 : Nat) (Option.some Jvm.ClassFile.FieldType.int)) ∈ wG := List.mem_filter.mpr ⟨List.mem_append_right _ (List.mem_of_getElem? (i := 622) (by decide +kernel)), by decide +kernel⟩
theorem kw_623 : (Jvm.Cond.methodLink "Takinghall" (417 : Nat) ({ cls := "java/lang/Math", name := "min", desc := "(II)I" } : Jvm.MethodName)) ∈ wG := List.mem_filter.mpr ⟨List.mem_append_right _ (List.mem_of_getElem? (i := 623) (by decide +kernel)), by decide +kernel⟩
theorem kw_624 : (Jvm.Cond.static ({ cls := "java/lang/Math", name := "min", desc := "(II)I" } : Jvm.MethodName)) ∈ wG := List.mem_filter.mpr ⟨List.mem_append_right _ (List.mem_of_getElem? (i := 624) (by decide +kernel)), by decide +kernel⟩
theorem kw_625 : (Jvm.Cond.code ({ cls := "java/lang/Math", name := "min", desc := "(II)I" } : Jvm.MethodName) prog_12_method_69_code (2 : Nat) (Option.some Jvm.ClassFile.FieldType.int)) ∈ wG := List.mem_filter.mpr ⟨List.mem_append_right _ (List.mem_of_getElem? (i := 625) (by decide +kernel)), by decide +kernel⟩
theorem kw_626 : (Jvm.Cond.methodLink "Takinghall" (409 : Nat) ({ cls := "Takinghall", name := "leaseSum", desc := "(LTakinghall$Interest;LTakinghall$Plot;)I" } : Jvm.MethodName)) ∈ wG := List.mem_filter.mpr ⟨List.mem_append_right _ (List.mem_of_getElem? (i := 626) (by decide +kernel)), by decide +kernel⟩
theorem kw_627 : (Jvm.Cond.static ({ cls := "Takinghall", name := "leaseSum", desc := "(LTakinghall$Interest;LTakinghall$Plot;)I" } : Jvm.MethodName)) ∈ wG := List.mem_filter.mpr ⟨List.mem_append_right _ (List.mem_of_getElem? (i := 627) (by decide +kernel)), by decide +kernel⟩
theorem kw_628 : (Jvm.Cond.code ({ cls := "Takinghall", name := "leaseSum", desc := "(LTakinghall$Interest;LTakinghall$Plot;)I" } : Jvm.MethodName) prog_1_method_70_code (3 : Nat) (Option.some Jvm.ClassFile.FieldType.int)) ∈ wG := List.mem_filter.mpr ⟨List.mem_append_right _ (List.mem_of_getElem? (i := 628) (by decide +kernel)), by decide +kernel⟩
theorem kw_629 : (Jvm.Cond.methodLink "Takinghall" (390 : Nat) ({ cls := "Takinghall", name := "leftForCourt", desc := "(LTakinghall$Plot;I)I" } : Jvm.MethodName)) ∈ wG := List.mem_filter.mpr ⟨List.mem_append_right _ (List.mem_of_getElem? (i := 629) (by decide +kernel)), by decide +kernel⟩
theorem kw_631 : (Jvm.Cond.instanceMethod ({ cls := "Takinghall", name := "leftForCourt", desc := "(LTakinghall$Plot;I)I" } : Jvm.MethodName)) ∈ wG := List.mem_filter.mpr ⟨List.mem_append_right _ (List.mem_of_getElem? (i := 631) (by decide +kernel)), by decide +kernel⟩
theorem kw_632 : (Jvm.Cond.code ({ cls := "Takinghall", name := "leftForCourt", desc := "(LTakinghall$Plot;I)I" } : Jvm.MethodName) prog_1_method_72_code (9 : Nat) (Option.some Jvm.ClassFile.FieldType.int)) ∈ wG := List.mem_filter.mpr ⟨List.mem_append_right _ (List.mem_of_getElem? (i := 632) (by decide +kernel)), by decide +kernel⟩
theorem kw_633 : (Jvm.Cond.methodLink "TakinghallLaw" (184 : Nat) ({ cls := "TakinghallLaw", name := "blight", desc := "(LTakinghall;I[J)I" } : Jvm.MethodName)) ∈ wG := List.mem_filter.mpr ⟨List.mem_append_right _ (List.mem_of_getElem? (i := 633) (by decide +kernel)), by decide +kernel⟩
theorem kw_634 : (Jvm.Cond.static ({ cls := "TakinghallLaw", name := "blight", desc := "(LTakinghall;I[J)I" } : Jvm.MethodName)) ∈ wG := List.mem_filter.mpr ⟨List.mem_append_right _ (List.mem_of_getElem? (i := 634) (by decide +kernel)), by decide +kernel⟩
theorem kw_635 : (Jvm.Cond.codeWith ({ cls := "TakinghallLaw", name := "blight", desc := "(LTakinghall;I[J)I" } : Jvm.MethodName) method_22_code (4 : Nat) (Option.some Jvm.ClassFile.FieldType.int) [((0 : Nat), (9 : Nat), (12 : Nat), (13 : Nat)), ((0 : Nat), (9 : Nat), (15 : Nat), (15 : Nat)), ((0 : Nat), (9 : Nat), (18 : Nat), (17 : Nat))]) ∈ wG := List.mem_filter.mpr ⟨List.mem_append_right _ (List.mem_of_getElem? (i := 635) (by decide +kernel)), by decide +kernel⟩
theorem kw_636 : (Jvm.Cond.methodLink "TakinghallLaw" (78 : Nat) ({ cls := "Takinghall", name := "blight", desc := "(I)I" } : Jvm.MethodName)) ∈ wG := List.mem_filter.mpr ⟨List.mem_append_right _ (List.mem_of_getElem? (i := 636) (by decide +kernel)), by decide +kernel⟩
theorem kw_637 : (Jvm.Cond.instanceMethod ({ cls := "Takinghall", name := "blight", desc := "(I)I" } : Jvm.MethodName)) ∈ wG := List.mem_filter.mpr ⟨List.mem_append_right _ (List.mem_of_getElem? (i := 637) (by decide +kernel)), by decide +kernel⟩
theorem kw_638 : (Jvm.Cond.selects "Takinghall" ({ cls := "Takinghall", name := "blight", desc := "(I)I" } : Jvm.MethodName) ({ cls := "Takinghall", name := "blight", desc := "(I)I" } : Jvm.MethodName)) ∈ wG := List.mem_filter.mpr ⟨List.mem_append_right _ (List.mem_of_getElem? (i := 638) (by decide +kernel)), by decide +kernel⟩
theorem kw_639 : (Jvm.Cond.code ({ cls := "Takinghall", name := "blight", desc := "(I)I" } : Jvm.MethodName) prog_1_method_21_code (4 : Nat) (Option.some Jvm.ClassFile.FieldType.int)) ∈ wG := List.mem_filter.mpr ⟨List.mem_append_right _ (List.mem_of_getElem? (i := 639) (by decide +kernel)), by decide +kernel⟩
theorem kw_642 : (Jvm.Cond.methodLink "TakinghallLaw" (187 : Nat) ({ cls := "TakinghallLaw", name := "works", desc := "(LTakinghall;I[J)I" } : Jvm.MethodName)) ∈ wG := List.mem_filter.mpr ⟨List.mem_append_right _ (List.mem_of_getElem? (i := 642) (by decide +kernel)), by decide +kernel⟩
theorem kw_643 : (Jvm.Cond.static ({ cls := "TakinghallLaw", name := "works", desc := "(LTakinghall;I[J)I" } : Jvm.MethodName)) ∈ wG := List.mem_filter.mpr ⟨List.mem_append_right _ (List.mem_of_getElem? (i := 643) (by decide +kernel)), by decide +kernel⟩
theorem kw_644 : (Jvm.Cond.codeWith ({ cls := "TakinghallLaw", name := "works", desc := "(LTakinghall;I[J)I" } : Jvm.MethodName) method_23_code (4 : Nat) (Option.some Jvm.ClassFile.FieldType.int) [((0 : Nat), (9 : Nat), (12 : Nat), (13 : Nat)), ((0 : Nat), (9 : Nat), (15 : Nat), (17 : Nat))]) ∈ wG := List.mem_filter.mpr ⟨List.mem_append_right _ (List.mem_of_getElem? (i := 644) (by decide +kernel)), by decide +kernel⟩
theorem kw_645 : (Jvm.Cond.methodLink "TakinghallLaw" (81 : Nat) ({ cls := "Takinghall", name := "works", desc := "(I)I" } : Jvm.MethodName)) ∈ wG := List.mem_filter.mpr ⟨List.mem_append_right _ (List.mem_of_getElem? (i := 645) (by decide +kernel)), by decide +kernel⟩
theorem kw_646 : (Jvm.Cond.instanceMethod ({ cls := "Takinghall", name := "works", desc := "(I)I" } : Jvm.MethodName)) ∈ wG := List.mem_filter.mpr ⟨List.mem_append_right _ (List.mem_of_getElem? (i := 646) (by decide +kernel)), by decide +kernel⟩
theorem kw_647 : (Jvm.Cond.selects "Takinghall" ({ cls := "Takinghall", name := "works", desc := "(I)I" } : Jvm.MethodName) ({ cls := "Takinghall", name := "works", desc := "(I)I" } : Jvm.MethodName)) ∈ wG := List.mem_filter.mpr ⟨List.mem_append_right _ (List.mem_of_getElem? (i := 647) (by decide +kernel)), by decide +kernel⟩
theorem kw_648 : (Jvm.Cond.code ({ cls := "Takinghall", name := "works", desc := "(I)I" } : Jvm.MethodName) prog_1_method_22_code (3 : Nat) (Option.some Jvm.ClassFile.FieldType.int)) ∈ wG := List.mem_filter.mpr ⟨List.mem_append_right _ (List.mem_of_getElem? (i := 648) (by decide +kernel)), by decide +kernel⟩
theorem kw_650 : (Jvm.Cond.methodLink "Takinghall" (296 : Nat) ({ cls := "Takinghall", name := "countWorks", desc := "()I" } : Jvm.MethodName)) ∈ wG := List.mem_filter.mpr ⟨List.mem_append_right _ (List.mem_of_getElem? (i := 650) (by decide +kernel)), by decide +kernel⟩
theorem kw_652 : (Jvm.Cond.instanceMethod ({ cls := "Takinghall", name := "countWorks", desc := "()I" } : Jvm.MethodName)) ∈ wG := List.mem_filter.mpr ⟨List.mem_append_right _ (List.mem_of_getElem? (i := 652) (by decide +kernel)), by decide +kernel⟩
theorem kw_653 : (Jvm.Cond.code ({ cls := "Takinghall", name := "countWorks", desc := "()I" } : Jvm.MethodName) prog_1_method_55_code (6 : Nat) (Option.some Jvm.ClassFile.FieldType.int)) ∈ wG := List.mem_filter.mpr ⟨List.mem_append_right _ (List.mem_of_getElem? (i := 653) (by decide +kernel)), by decide +kernel⟩
theorem kw_654 : (Jvm.Cond.methodLink "TakinghallLaw" (190 : Nat) ({ cls := "TakinghallLaw", name := "sumAnew", desc := "(LTakinghall;I[J)I" } : Jvm.MethodName)) ∈ wG := List.mem_filter.mpr ⟨List.mem_append_right _ (List.mem_of_getElem? (i := 654) (by decide +kernel)), by decide +kernel⟩
theorem kw_655 : (Jvm.Cond.static ({ cls := "TakinghallLaw", name := "sumAnew", desc := "(LTakinghall;I[J)I" } : Jvm.MethodName)) ∈ wG := List.mem_filter.mpr ⟨List.mem_append_right _ (List.mem_of_getElem? (i := 655) (by decide +kernel)), by decide +kernel⟩
theorem kw_656 : (Jvm.Cond.codeWith ({ cls := "TakinghallLaw", name := "sumAnew", desc := "(LTakinghall;I[J)I" } : Jvm.MethodName) method_24_code (4 : Nat) (Option.some Jvm.ClassFile.FieldType.int) [((0 : Nat), (8 : Nat), (11 : Nat), (13 : Nat))]) ∈ wG := List.mem_filter.mpr ⟨List.mem_append_right _ (List.mem_of_getElem? (i := 656) (by decide +kernel)), by decide +kernel⟩
theorem kw_657 : (Jvm.Cond.methodLink "TakinghallLaw" (84 : Nat) ({ cls := "Takinghall", name := "sumAnew", desc := "(I)J" } : Jvm.MethodName)) ∈ wG := List.mem_filter.mpr ⟨List.mem_append_right _ (List.mem_of_getElem? (i := 657) (by decide +kernel)), by decide +kernel⟩
theorem kw_658 : (Jvm.Cond.instanceMethod ({ cls := "Takinghall", name := "sumAnew", desc := "(I)J" } : Jvm.MethodName)) ∈ wG := List.mem_filter.mpr ⟨List.mem_append_right _ (List.mem_of_getElem? (i := 658) (by decide +kernel)), by decide +kernel⟩
theorem kw_659 : (Jvm.Cond.selects "Takinghall" ({ cls := "Takinghall", name := "sumAnew", desc := "(I)J" } : Jvm.MethodName) ({ cls := "Takinghall", name := "sumAnew", desc := "(I)J" } : Jvm.MethodName)) ∈ wG := List.mem_filter.mpr ⟨List.mem_append_right _ (List.mem_of_getElem? (i := 659) (by decide +kernel)), by decide +kernel⟩
theorem kw_660 : (Jvm.Cond.code ({ cls := "Takinghall", name := "sumAnew", desc := "(I)J" } : Jvm.MethodName) prog_1_method_23_code (3 : Nat) (Option.some Jvm.ClassFile.FieldType.long)) ∈ wG := List.mem_filter.mpr ⟨List.mem_append_right _ (List.mem_of_getElem? (i := 660) (by decide +kernel)), by decide +kernel⟩
theorem kw_661 : (Jvm.Cond.methodLink "Takinghall" (300 : Nat) ({ cls := "Takinghall", name := "wasTaken", desc := "(LTakinghall$Plot;)Z" } : Jvm.MethodName)) ∈ wG := List.mem_filter.mpr ⟨List.mem_append_right _ (List.mem_of_getElem? (i := 661) (by decide +kernel)), by decide +kernel⟩
theorem kw_662 : (Jvm.Cond.static ({ cls := "Takinghall", name := "wasTaken", desc := "(LTakinghall$Plot;)Z" } : Jvm.MethodName)) ∈ wG := List.mem_filter.mpr ⟨List.mem_append_right _ (List.mem_of_getElem? (i := 662) (by decide +kernel)), by decide +kernel⟩
theorem kw_663 : (Jvm.Cond.code ({ cls := "Takinghall", name := "wasTaken", desc := "(LTakinghall$Plot;)Z" } : Jvm.MethodName) prog_1_method_65_code (1 : Nat) (Option.some Jvm.ClassFile.FieldType.boolean)) ∈ wG := List.mem_filter.mpr ⟨List.mem_append_right _ (List.mem_of_getElem? (i := 663) (by decide +kernel)), by decide +kernel⟩
theorem kw_664 : (Jvm.Cond.methodLink "TakinghallLaw" (193 : Nat) ({ cls := "TakinghallLaw", name := "owed", desc := "(LTakinghall;I[J)I" } : Jvm.MethodName)) ∈ wG := List.mem_filter.mpr ⟨List.mem_append_right _ (List.mem_of_getElem? (i := 664) (by decide +kernel)), by decide +kernel⟩
theorem kw_665 : (Jvm.Cond.static ({ cls := "TakinghallLaw", name := "owed", desc := "(LTakinghall;I[J)I" } : Jvm.MethodName)) ∈ wG := List.mem_filter.mpr ⟨List.mem_append_right _ (List.mem_of_getElem? (i := 665) (by decide +kernel)), by decide +kernel⟩
theorem kw_666 : (Jvm.Cond.codeWith ({ cls := "TakinghallLaw", name := "owed", desc := "(LTakinghall;I[J)I" } : Jvm.MethodName) method_25_code (4 : Nat) (Option.some Jvm.ClassFile.FieldType.int) [((0 : Nat), (8 : Nat), (11 : Nat), (13 : Nat))]) ∈ wG := List.mem_filter.mpr ⟨List.mem_append_right _ (List.mem_of_getElem? (i := 666) (by decide +kernel)), by decide +kernel⟩
theorem kw_667 : (Jvm.Cond.methodLink "TakinghallLaw" (88 : Nat) ({ cls := "Takinghall", name := "owed", desc := "(I)J" } : Jvm.MethodName)) ∈ wG := List.mem_filter.mpr ⟨List.mem_append_right _ (List.mem_of_getElem? (i := 667) (by decide +kernel)), by decide +kernel⟩
theorem kw_668 : (Jvm.Cond.instanceMethod ({ cls := "Takinghall", name := "owed", desc := "(I)J" } : Jvm.MethodName)) ∈ wG := List.mem_filter.mpr ⟨List.mem_append_right _ (List.mem_of_getElem? (i := 668) (by decide +kernel)), by decide +kernel⟩
theorem kw_669 : (Jvm.Cond.selects "Takinghall" ({ cls := "Takinghall", name := "owed", desc := "(I)J" } : Jvm.MethodName) ({ cls := "Takinghall", name := "owed", desc := "(I)J" } : Jvm.MethodName)) ∈ wG := List.mem_filter.mpr ⟨List.mem_append_right _ (List.mem_of_getElem? (i := 669) (by decide +kernel)), by decide +kernel⟩
theorem kw_670 : (Jvm.Cond.code ({ cls := "Takinghall", name := "owed", desc := "(I)J" } : Jvm.MethodName) prog_1_method_24_code (3 : Nat) (Option.some Jvm.ClassFile.FieldType.long)) ∈ wG := List.mem_filter.mpr ⟨List.mem_append_right _ (List.mem_of_getElem? (i := 670) (by decide +kernel)), by decide +kernel⟩
theorem kw_671 : (Jvm.Cond.methodLink "Takinghall" (310 : Nat) ({ cls := "Takinghall", name := "owedTo", desc := "(LTakinghall$Interest;)J" } : Jvm.MethodName)) ∈ wG := List.mem_filter.mpr ⟨List.mem_append_right _ (List.mem_of_getElem? (i := 671) (by decide +kernel)), by decide +kernel⟩
theorem kw_673 : (Jvm.Cond.instanceMethod ({ cls := "Takinghall", name := "owedTo", desc := "(LTakinghall$Interest;)J" } : Jvm.MethodName)) ∈ wG := List.mem_filter.mpr ⟨List.mem_append_right _ (List.mem_of_getElem? (i := 673) (by decide +kernel)), by decide +kernel⟩
theorem kw_674 : (Jvm.Cond.code ({ cls := "Takinghall", name := "owedTo", desc := "(LTakinghall$Interest;)J" } : Jvm.MethodName) prog_1_method_73_code (2 : Nat) (Option.some Jvm.ClassFile.FieldType.long)) ∈ wG := List.mem_filter.mpr ⟨List.mem_append_right _ (List.mem_of_getElem? (i := 674) (by decide +kernel)), by decide +kernel⟩
theorem kw_675 : (Jvm.Cond.methodLink "Takinghall" (423 : Nat) ({ cls := "Takinghall", name := "gainOf", desc := "(LTakinghall$Interest;)J" } : Jvm.MethodName)) ∈ wG := List.mem_filter.mpr ⟨List.mem_append_right _ (List.mem_of_getElem? (i := 675) (by decide +kernel)), by decide +kernel⟩
theorem kw_677 : (Jvm.Cond.instanceMethod ({ cls := "Takinghall", name := "gainOf", desc := "(LTakinghall$Interest;)J" } : Jvm.MethodName)) ∈ wG := List.mem_filter.mpr ⟨List.mem_append_right _ (List.mem_of_getElem? (i := 677) (by decide +kernel)), by decide +kernel⟩
theorem kw_678 : (Jvm.Cond.code ({ cls := "Takinghall", name := "gainOf", desc := "(LTakinghall$Interest;)J" } : Jvm.MethodName) prog_1_method_74_code (3 : Nat) (Option.some Jvm.ClassFile.FieldType.long)) ∈ wG := List.mem_filter.mpr ⟨List.mem_append_right _ (List.mem_of_getElem? (i := 678) (by decide +kernel)), by decide +kernel⟩
theorem kw_679 : (Jvm.Cond.methodLink "Takinghall" (426 : Nat) ({ cls := "Takinghall", name := "gainOfRow", desc := "(JJ)J" } : Jvm.MethodName)) ∈ wG := List.mem_filter.mpr ⟨List.mem_append_right _ (List.mem_of_getElem? (i := 679) (by decide +kernel)), by decide +kernel⟩
theorem kw_680 : (Jvm.Cond.static ({ cls := "Takinghall", name := "gainOfRow", desc := "(JJ)J" } : Jvm.MethodName)) ∈ wG := List.mem_filter.mpr ⟨List.mem_append_right _ (List.mem_of_getElem? (i := 680) (by decide +kernel)), by decide +kernel⟩
theorem kw_681 : (Jvm.Cond.code ({ cls := "Takinghall", name := "gainOfRow", desc := "(JJ)J" } : Jvm.MethodName) prog_1_method_75_code (4 : Nat) (Option.some Jvm.ClassFile.FieldType.long)) ∈ wG := List.mem_filter.mpr ⟨List.mem_append_right _ (List.mem_of_getElem? (i := 681) (by decide +kernel)), by decide +kernel⟩
theorem kw_682 : (Jvm.Cond.constantLong "Takinghall" (430 : Nat) (3 : Int64)) ∈ wG := List.mem_filter.mpr ⟨List.mem_append_right _ (List.mem_of_getElem? (i := 682) (by decide +kernel)), by decide +kernel⟩
theorem kw_683 : (Jvm.Cond.constantLong "Takinghall" (432 : Nat) (36500 : Int64)) ∈ wG := List.mem_filter.mpr ⟨List.mem_append_right _ (List.mem_of_getElem? (i := 683) (by decide +kernel)), by decide +kernel⟩
theorem kw_684 : (Jvm.Cond.methodLink "TakinghallLaw" (196 : Nat) ({ cls := "TakinghallLaw", name := "advance", desc := "(LTakinghall;I[J)I" } : Jvm.MethodName)) ∈ wG := List.mem_filter.mpr ⟨List.mem_append_right _ (List.mem_of_getElem? (i := 684) (by decide +kernel)), by decide +kernel⟩
theorem kw_685 : (Jvm.Cond.static ({ cls := "TakinghallLaw", name := "advance", desc := "(LTakinghall;I[J)I" } : Jvm.MethodName)) ∈ wG := List.mem_filter.mpr ⟨List.mem_append_right _ (List.mem_of_getElem? (i := 685) (by decide +kernel)), by decide +kernel⟩
theorem kw_686 : (Jvm.Cond.codeWith ({ cls := "TakinghallLaw", name := "advance", desc := "(LTakinghall;I[J)I" } : Jvm.MethodName) method_26_code (4 : Nat) (Option.some Jvm.ClassFile.FieldType.int) [((0 : Nat), (8 : Nat), (11 : Nat), (13 : Nat)), ((0 : Nat), (8 : Nat), (14 : Nat), (17 : Nat))]) ∈ wG := List.mem_filter.mpr ⟨List.mem_append_right _ (List.mem_of_getElem? (i := 686) (by decide +kernel)), by decide +kernel⟩
theorem kw_687 : (Jvm.Cond.methodLink "TakinghallLaw" (91 : Nat) ({ cls := "Takinghall", name := "advance", desc := "(I)J" } : Jvm.MethodName)) ∈ wG := List.mem_filter.mpr ⟨List.mem_append_right _ (List.mem_of_getElem? (i := 687) (by decide +kernel)), by decide +kernel⟩
theorem kw_688 : (Jvm.Cond.instanceMethod ({ cls := "Takinghall", name := "advance", desc := "(I)J" } : Jvm.MethodName)) ∈ wG := List.mem_filter.mpr ⟨List.mem_append_right _ (List.mem_of_getElem? (i := 688) (by decide +kernel)), by decide +kernel⟩
theorem kw_689 : (Jvm.Cond.selects "Takinghall" ({ cls := "Takinghall", name := "advance", desc := "(I)J" } : Jvm.MethodName) ({ cls := "Takinghall", name := "advance", desc := "(I)J" } : Jvm.MethodName)) ∈ wG := List.mem_filter.mpr ⟨List.mem_append_right _ (List.mem_of_getElem? (i := 689) (by decide +kernel)), by decide +kernel⟩
theorem kw_690 : (Jvm.Cond.code ({ cls := "Takinghall", name := "advance", desc := "(I)J" } : Jvm.MethodName) prog_1_method_25_code (5 : Nat) (Option.some Jvm.ClassFile.FieldType.long)) ∈ wG := List.mem_filter.mpr ⟨List.mem_append_right _ (List.mem_of_getElem? (i := 690) (by decide +kernel)), by decide +kernel⟩
theorem kw_692 : (Jvm.Cond.constantLong "Takinghall" (322 : Nat) (90 : Int64)) ∈ wG := List.mem_filter.mpr ⟨List.mem_append_right _ (List.mem_of_getElem? (i := 692) (by decide +kernel)), by decide +kernel⟩
theorem kw_693 : (Jvm.Cond.constantLong "Takinghall" (324 : Nat) (100 : Int64)) ∈ wG := List.mem_filter.mpr ⟨List.mem_append_right _ (List.mem_of_getElem? (i := 693) (by decide +kernel)), by decide +kernel⟩
theorem kw_694 : (Jvm.Cond.methodLink "TakinghallLaw" (199 : Nat) ({ cls := "TakinghallLaw", name := "settle", desc := "(LTakinghall;I[J)I" } : Jvm.MethodName)) ∈ wG := List.mem_filter.mpr ⟨List.mem_append_right _ (List.mem_of_getElem? (i := 694) (by decide +kernel)), by decide +kernel⟩
theorem kw_695 : (Jvm.Cond.static ({ cls := "TakinghallLaw", name := "settle", desc := "(LTakinghall;I[J)I" } : Jvm.MethodName)) ∈ wG := List.mem_filter.mpr ⟨List.mem_append_right _ (List.mem_of_getElem? (i := 695) (by decide +kernel)), by decide +kernel⟩
theorem kw_696 : (Jvm.Cond.codeWith ({ cls := "TakinghallLaw", name := "settle", desc := "(LTakinghall;I[J)I" } : Jvm.MethodName) method_27_code (4 : Nat) (Option.some Jvm.ClassFile.FieldType.int) [((0 : Nat), (8 : Nat), (11 : Nat), (13 : Nat)), ((0 : Nat), (8 : Nat), (14 : Nat), (17 : Nat))]) ∈ wG := List.mem_filter.mpr ⟨List.mem_append_right _ (List.mem_of_getElem? (i := 696) (by decide +kernel)), by decide +kernel⟩
theorem kw_697 : (Jvm.Cond.methodLink "TakinghallLaw" (94 : Nat) ({ cls := "Takinghall", name := "settle", desc := "(I)J" } : Jvm.MethodName)) ∈ wG := List.mem_filter.mpr ⟨List.mem_append_right _ (List.mem_of_getElem? (i := 697) (by decide +kernel)), by decide +kernel⟩
theorem kw_698 : (Jvm.Cond.instanceMethod ({ cls := "Takinghall", name := "settle", desc := "(I)J" } : Jvm.MethodName)) ∈ wG := List.mem_filter.mpr ⟨List.mem_append_right _ (List.mem_of_getElem? (i := 698) (by decide +kernel)), by decide +kernel⟩
theorem kw_699 : (Jvm.Cond.selects "Takinghall" ({ cls := "Takinghall", name := "settle", desc := "(I)J" } : Jvm.MethodName) ({ cls := "Takinghall", name := "settle", desc := "(I)J" } : Jvm.MethodName)) ∈ wG := List.mem_filter.mpr ⟨List.mem_append_right _ (List.mem_of_getElem? (i := 699) (by decide +kernel)), by decide +kernel⟩
theorem kw_700 : (Jvm.Cond.code ({ cls := "Takinghall", name := "settle", desc := "(I)J" } : Jvm.MethodName) prog_1_method_26_code (5 : Nat) (Option.some Jvm.ClassFile.FieldType.long)) ∈ wG := List.mem_filter.mpr ⟨List.mem_append_right _ (List.mem_of_getElem? (i := 700) (by decide +kernel)), by decide +kernel⟩
theorem kw_702 : (Jvm.Cond.methodLink "TakinghallLaw" (202 : Nat) ({ cls := "TakinghallLaw", name := "refuse", desc := "(LTakinghall;I[J)I" } : Jvm.MethodName)) ∈ wG := List.mem_filter.mpr ⟨List.mem_append_right _ (List.mem_of_getElem? (i := 702) (by decide +kernel)), by decide +kernel⟩
theorem kw_703 : (Jvm.Cond.static ({ cls := "TakinghallLaw", name := "refuse", desc := "(LTakinghall;I[J)I" } : Jvm.MethodName)) ∈ wG := List.mem_filter.mpr ⟨List.mem_append_right _ (List.mem_of_getElem? (i := 703) (by decide +kernel)), by decide +kernel⟩
theorem kw_704 : (Jvm.Cond.codeWith ({ cls := "TakinghallLaw", name := "refuse", desc := "(LTakinghall;I[J)I" } : Jvm.MethodName) method_28_code (4 : Nat) (Option.some Jvm.ClassFile.FieldType.int) [((0 : Nat), (9 : Nat), (12 : Nat), (13 : Nat)), ((0 : Nat), (9 : Nat), (15 : Nat), (17 : Nat))]) ∈ wG := List.mem_filter.mpr ⟨List.mem_append_right _ (List.mem_of_getElem? (i := 704) (by decide +kernel)), by decide +kernel⟩
theorem kw_705 : (Jvm.Cond.methodLink "TakinghallLaw" (97 : Nat) ({ cls := "Takinghall", name := "refuse", desc := "(I)I" } : Jvm.MethodName)) ∈ wG := List.mem_filter.mpr ⟨List.mem_append_right _ (List.mem_of_getElem? (i := 705) (by decide +kernel)), by decide +kernel⟩
theorem kw_706 : (Jvm.Cond.instanceMethod ({ cls := "Takinghall", name := "refuse", desc := "(I)I" } : Jvm.MethodName)) ∈ wG := List.mem_filter.mpr ⟨List.mem_append_right _ (List.mem_of_getElem? (i := 706) (by decide +kernel)), by decide +kernel⟩
theorem kw_707 : (Jvm.Cond.selects "Takinghall" ({ cls := "Takinghall", name := "refuse", desc := "(I)I" } : Jvm.MethodName) ({ cls := "Takinghall", name := "refuse", desc := "(I)I" } : Jvm.MethodName)) ∈ wG := List.mem_filter.mpr ⟨List.mem_append_right _ (List.mem_of_getElem? (i := 707) (by decide +kernel)), by decide +kernel⟩
theorem kw_708 : (Jvm.Cond.code ({ cls := "Takinghall", name := "refuse", desc := "(I)I" } : Jvm.MethodName) prog_1_method_27_code (4 : Nat) (Option.some Jvm.ClassFile.FieldType.int)) ∈ wG := List.mem_filter.mpr ⟨List.mem_append_right _ (List.mem_of_getElem? (i := 708) (by decide +kernel)), by decide +kernel⟩
theorem kw_710 : (Jvm.Cond.methodLink "TakinghallLaw" (205 : Nat) ({ cls := "TakinghallLaw", name := "accept", desc := "(LTakinghall;I[J)I" } : Jvm.MethodName)) ∈ wG := List.mem_filter.mpr ⟨List.mem_append_right _ (List.mem_of_getElem? (i := 710) (by decide +kernel)), by decide +kernel⟩
theorem kw_711 : (Jvm.Cond.static ({ cls := "TakinghallLaw", name := "accept", desc := "(LTakinghall;I[J)I" } : Jvm.MethodName)) ∈ wG := List.mem_filter.mpr ⟨List.mem_append_right _ (List.mem_of_getElem? (i := 711) (by decide +kernel)), by decide +kernel⟩
theorem kw_712 : (Jvm.Cond.codeWith ({ cls := "TakinghallLaw", name := "accept", desc := "(LTakinghall;I[J)I" } : Jvm.MethodName) method_29_code (4 : Nat) (Option.some Jvm.ClassFile.FieldType.int) [((0 : Nat), (9 : Nat), (12 : Nat), (13 : Nat)), ((0 : Nat), (9 : Nat), (15 : Nat), (17 : Nat))]) ∈ wG := List.mem_filter.mpr ⟨List.mem_append_right _ (List.mem_of_getElem? (i := 712) (by decide +kernel)), by decide +kernel⟩
theorem kw_713 : (Jvm.Cond.methodLink "TakinghallLaw" (100 : Nat) ({ cls := "Takinghall", name := "accept", desc := "(I)I" } : Jvm.MethodName)) ∈ wG := List.mem_filter.mpr ⟨List.mem_append_right _ (List.mem_of_getElem? (i := 713) (by decide +kernel)), by decide +kernel⟩
theorem kw_714 : (Jvm.Cond.instanceMethod ({ cls := "Takinghall", name := "accept", desc := "(I)I" } : Jvm.MethodName)) ∈ wG := List.mem_filter.mpr ⟨List.mem_append_right _ (List.mem_of_getElem? (i := 714) (by decide +kernel)), by decide +kernel⟩
theorem kw_715 : (Jvm.Cond.selects "Takinghall" ({ cls := "Takinghall", name := "accept", desc := "(I)I" } : Jvm.MethodName) ({ cls := "Takinghall", name := "accept", desc := "(I)I" } : Jvm.MethodName)) ∈ wG := List.mem_filter.mpr ⟨List.mem_append_right _ (List.mem_of_getElem? (i := 715) (by decide +kernel)), by decide +kernel⟩
theorem kw_716 : (Jvm.Cond.code ({ cls := "Takinghall", name := "accept", desc := "(I)I" } : Jvm.MethodName) prog_1_method_28_code (4 : Nat) (Option.some Jvm.ClassFile.FieldType.int)) ∈ wG := List.mem_filter.mpr ⟨List.mem_append_right _ (List.mem_of_getElem? (i := 716) (by decide +kernel)), by decide +kernel⟩
theorem kw_717 : (Jvm.Cond.methodLink "TakinghallLaw" (208 : Nat) ({ cls := "TakinghallLaw", name := "pass", desc := "(LTakinghall;I[J)I" } : Jvm.MethodName)) ∈ wG := List.mem_filter.mpr ⟨List.mem_append_right _ (List.mem_of_getElem? (i := 717) (by decide +kernel)), by decide +kernel⟩
theorem kw_718 : (Jvm.Cond.static ({ cls := "TakinghallLaw", name := "pass", desc := "(LTakinghall;I[J)I" } : Jvm.MethodName)) ∈ wG := List.mem_filter.mpr ⟨List.mem_append_right _ (List.mem_of_getElem? (i := 718) (by decide +kernel)), by decide +kernel⟩
theorem kw_719 : (Jvm.Cond.codeWith ({ cls := "TakinghallLaw", name := "pass", desc := "(LTakinghall;I[J)I" } : Jvm.MethodName) method_30_code (4 : Nat) (Option.some Jvm.ClassFile.FieldType.int) [((0 : Nat), (9 : Nat), (12 : Nat), (15 : Nat)), ((0 : Nat), (9 : Nat), (15 : Nat), (17 : Nat))]) ∈ wG := List.mem_filter.mpr ⟨List.mem_append_right _ (List.mem_of_getElem? (i := 719) (by decide +kernel)), by decide +kernel⟩
theorem kw_720 : (Jvm.Cond.methodLink "TakinghallLaw" (103 : Nat) ({ cls := "Takinghall", name := "pass", desc := "(I)I" } : Jvm.MethodName)) ∈ wG := List.mem_filter.mpr ⟨List.mem_append_right _ (List.mem_of_getElem? (i := 720) (by decide +kernel)), by decide +kernel⟩
theorem kw_721 : (Jvm.Cond.instanceMethod ({ cls := "Takinghall", name := "pass", desc := "(I)I" } : Jvm.MethodName)) ∈ wG := List.mem_filter.mpr ⟨List.mem_append_right _ (List.mem_of_getElem? (i := 721) (by decide +kernel)), by decide +kernel⟩
theorem kw_722 : (Jvm.Cond.selects "Takinghall" ({ cls := "Takinghall", name := "pass", desc := "(I)I" } : Jvm.MethodName) ({ cls := "Takinghall", name := "pass", desc := "(I)I" } : Jvm.MethodName)) ∈ wG := List.mem_filter.mpr ⟨List.mem_append_right _ (List.mem_of_getElem? (i := 722) (by decide +kernel)), by decide +kernel⟩
theorem kw_723 : (Jvm.Cond.code ({ cls := "Takinghall", name := "pass", desc := "(I)I" } : Jvm.MethodName) prog_1_method_29_code (2 : Nat) (Option.some Jvm.ClassFile.FieldType.int)) ∈ wG := List.mem_filter.mpr ⟨List.mem_append_right _ (List.mem_of_getElem? (i := 723) (by decide +kernel)), by decide +kernel⟩
theorem kw_726 : (Jvm.Cond.methodLink "TakinghallLaw" (215 : Nat) ({ cls := "TakinghallLaw", name := "total", desc := "(LTakinghall;I[J)I" } : Jvm.MethodName)) ∈ wG := List.mem_filter.mpr ⟨List.mem_append_right _ (List.mem_of_getElem? (i := 726) (by decide +kernel)), by decide +kernel⟩
theorem kw_727 : (Jvm.Cond.static ({ cls := "TakinghallLaw", name := "total", desc := "(LTakinghall;I[J)I" } : Jvm.MethodName)) ∈ wG := List.mem_filter.mpr ⟨List.mem_append_right _ (List.mem_of_getElem? (i := 727) (by decide +kernel)), by decide +kernel⟩
theorem kw_728 : (Jvm.Cond.codeWith ({ cls := "TakinghallLaw", name := "total", desc := "(LTakinghall;I[J)I" } : Jvm.MethodName) method_31_code (4 : Nat) (Option.some Jvm.ClassFile.FieldType.int) [((0 : Nat), (8 : Nat), (11 : Nat), (15 : Nat))]) ∈ wG := List.mem_filter.mpr ⟨List.mem_append_right _ (List.mem_of_getElem? (i := 728) (by decide +kernel)), by decide +kernel⟩
theorem kw_729 : (Jvm.Cond.methodLink "TakinghallLaw" (106 : Nat) ({ cls := "Takinghall", name := "total", desc := "(I)J" } : Jvm.MethodName)) ∈ wG := List.mem_filter.mpr ⟨List.mem_append_right _ (List.mem_of_getElem? (i := 729) (by decide +kernel)), by decide +kernel⟩
theorem kw_730 : (Jvm.Cond.instanceMethod ({ cls := "Takinghall", name := "total", desc := "(I)J" } : Jvm.MethodName)) ∈ wG := List.mem_filter.mpr ⟨List.mem_append_right _ (List.mem_of_getElem? (i := 730) (by decide +kernel)), by decide +kernel⟩
theorem kw_731 : (Jvm.Cond.selects "Takinghall" ({ cls := "Takinghall", name := "total", desc := "(I)J" } : Jvm.MethodName) ({ cls := "Takinghall", name := "total", desc := "(I)J" } : Jvm.MethodName)) ∈ wG := List.mem_filter.mpr ⟨List.mem_append_right _ (List.mem_of_getElem? (i := 731) (by decide +kernel)), by decide +kernel⟩
theorem kw_732 : (Jvm.Cond.code ({ cls := "Takinghall", name := "total", desc := "(I)J" } : Jvm.MethodName) prog_1_method_31_code (2 : Nat) (Option.some Jvm.ClassFile.FieldType.long)) ∈ wG := List.mem_filter.mpr ⟨List.mem_append_right _ (List.mem_of_getElem? (i := 732) (by decide +kernel)), by decide +kernel⟩
theorem kw_733 : (Jvm.Cond.methodLink "TakinghallLaw" (218 : Nat) ({ cls := "TakinghallLaw", name := "creditors", desc := "(LTakinghall;I[J)I" } : Jvm.MethodName)) ∈ wG := List.mem_filter.mpr ⟨List.mem_append_right _ (List.mem_of_getElem? (i := 733) (by decide +kernel)), by decide +kernel⟩
theorem kw_734 : (Jvm.Cond.static ({ cls := "TakinghallLaw", name := "creditors", desc := "(LTakinghall;I[J)I" } : Jvm.MethodName)) ∈ wG := List.mem_filter.mpr ⟨List.mem_append_right _ (List.mem_of_getElem? (i := 734) (by decide +kernel)), by decide +kernel⟩
theorem kw_735 : (Jvm.Cond.codeWith ({ cls := "TakinghallLaw", name := "creditors", desc := "(LTakinghall;I[J)I" } : Jvm.MethodName) method_32_code (4 : Nat) (Option.some Jvm.ClassFile.FieldType.int) [((0 : Nat), (9 : Nat), (12 : Nat), (13 : Nat))]) ∈ wG := List.mem_filter.mpr ⟨List.mem_append_right _ (List.mem_of_getElem? (i := 735) (by decide +kernel)), by decide +kernel⟩
theorem kw_736 : (Jvm.Cond.methodLink "TakinghallLaw" (109 : Nat) ({ cls := "Takinghall", name := "creditors", desc := "(I)I" } : Jvm.MethodName)) ∈ wG := List.mem_filter.mpr ⟨List.mem_append_right _ (List.mem_of_getElem? (i := 736) (by decide +kernel)), by decide +kernel⟩
theorem kw_737 : (Jvm.Cond.instanceMethod ({ cls := "Takinghall", name := "creditors", desc := "(I)I" } : Jvm.MethodName)) ∈ wG := List.mem_filter.mpr ⟨List.mem_append_right _ (List.mem_of_getElem? (i := 737) (by decide +kernel)), by decide +kernel⟩
theorem kw_738 : (Jvm.Cond.selects "Takinghall" ({ cls := "Takinghall", name := "creditors", desc := "(I)I" } : Jvm.MethodName) ({ cls := "Takinghall", name := "creditors", desc := "(I)I" } : Jvm.MethodName)) ∈ wG := List.mem_filter.mpr ⟨List.mem_append_right _ (List.mem_of_getElem? (i := 738) (by decide +kernel)), by decide +kernel⟩
theorem kw_739 : (Jvm.Cond.code ({ cls := "Takinghall", name := "creditors", desc := "(I)I" } : Jvm.MethodName) prog_1_method_32_code (7 : Nat) (Option.some Jvm.ClassFile.FieldType.int)) ∈ wG := List.mem_filter.mpr ⟨List.mem_append_right _ (List.mem_of_getElem? (i := 739) (by decide +kernel)), by decide +kernel⟩
theorem kw_741 : (Jvm.Cond.classLink "TakinghallLaw" (113 : Nat) "TakinghallModel") ∈ wG := List.mem_filter.mpr ⟨List.mem_append_right _ (List.mem_of_getElem? (i := 741) (by decide +kernel)), by decide +kernel⟩
theorem kw_742 : (Jvm.Cond.instantiable "TakinghallModel" (35 : Nat)) ∈ wG := List.mem_filter.mpr ⟨List.mem_append_right _ (List.mem_of_getElem? (i := 742) (by decide +kernel)), by decide +kernel⟩
theorem kw_743 : (Jvm.Cond.methodLink "TakinghallLaw" (115 : Nat) ({ cls := "TakinghallModel", name := "<init>", desc := "()V" } : Jvm.MethodName)) ∈ wG := List.mem_filter.mpr ⟨List.mem_append_right _ (List.mem_of_getElem? (i := 743) (by decide +kernel)), by decide +kernel⟩
theorem kw_744 : (Jvm.Cond.instanceMethod ({ cls := "TakinghallModel", name := "<init>", desc := "()V" } : Jvm.MethodName)) ∈ wG := List.mem_filter.mpr ⟨List.mem_append_right _ (List.mem_of_getElem? (i := 744) (by decide +kernel)), by decide +kernel⟩
theorem kw_745 : (Jvm.Cond.code ({ cls := "TakinghallModel", name := "<init>", desc := "()V" } : Jvm.MethodName) prog_7_method_1_code (2 : Nat) (Option.none : Option Jvm.ClassFile.FieldType)) ∈ wG := List.mem_filter.mpr ⟨List.mem_append_right _ (List.mem_of_getElem? (i := 745) (by decide +kernel)), by decide +kernel⟩
theorem kw_746 : (Jvm.Cond.methodLink "TakinghallModel" (1 : Nat) ({ cls := "java/lang/Object", name := "<init>", desc := "()V" } : Jvm.MethodName)) ∈ wG := List.mem_filter.mpr ⟨List.mem_append_right _ (List.mem_of_getElem? (i := 746) (by decide +kernel)), by decide +kernel⟩
theorem kw_747 : (Jvm.Cond.constant "TakinghallModel" (7 : Nat) (60003 : Int32)) ∈ wG := List.mem_filter.mpr ⟨List.mem_append_right _ (List.mem_of_getElem? (i := 747) (by decide +kernel)), by decide +kernel⟩
theorem kw_748 : (Jvm.Cond.fieldLink "TakinghallModel" (100 : Nat) "TakinghallModel" "thrown" "I") ∈ wG := List.mem_filter.mpr ⟨List.mem_append_right _ (List.mem_of_getElem? (i := 748) (by decide +kernel)), by decide +kernel⟩
theorem kw_749 : (Jvm.Cond.fieldLink "TakinghallModel" (121 : Nat) "TakinghallModel" "today" "I") ∈ wG := List.mem_filter.mpr ⟨List.mem_append_right _ (List.mem_of_getElem? (i := 749) (by decide +kernel)), by decide +kernel⟩
theorem kw_750 : (Jvm.Cond.fieldLink "TakinghallModel" (8 : Nat) "TakinghallModel" "prices" "[I") ∈ wG := List.mem_filter.mpr ⟨List.mem_append_right _ (List.mem_of_getElem? (i := 750) (by decide +kernel)), by decide +kernel⟩
theorem kw_751 : (Jvm.Cond.fieldLink "TakinghallModel" (14 : Nat) "TakinghallModel" "areas" "[I") ∈ wG := List.mem_filter.mpr ⟨List.mem_append_right _ (List.mem_of_getElem? (i := 751) (by decide +kernel)), by decide +kernel⟩
theorem kw_752 : (Jvm.Cond.fieldLink "TakinghallModel" (17 : Nat) "TakinghallModel" "uses" "[I") ∈ wG := List.mem_filter.mpr ⟨List.mem_append_right _ (List.mem_of_getElem? (i := 752) (by decide +kernel)), by decide +kernel⟩
theorem kw_753 : (Jvm.Cond.fieldLink "TakinghallModel" (20 : Nat) "TakinghallModel" "states" "[I") ∈ wG := List.mem_filter.mpr ⟨List.mem_append_right _ (List.mem_of_getElem? (i := 753) (by decide +kernel)), by decide +kernel⟩
theorem kw_754 : (Jvm.Cond.fieldLink "TakinghallModel" (23 : Nat) "TakinghallModel" "needers" "[I") ∈ wG := List.mem_filter.mpr ⟨List.mem_append_right _ (List.mem_of_getElem? (i := 754) (by decide +kernel)), by decide +kernel⟩
theorem kw_755 : (Jvm.Cond.fieldLink "TakinghallModel" (26 : Nat) "TakinghallModel" "parts" "[I") ∈ wG := List.mem_filter.mpr ⟨List.mem_append_right _ (List.mem_of_getElem? (i := 755) (by decide +kernel)), by decide +kernel⟩
theorem kw_756 : (Jvm.Cond.fieldLink "TakinghallModel" (29 : Nat) "TakinghallModel" "valueDays" "[I") ∈ wG := List.mem_filter.mpr ⟨List.mem_append_right _ (List.mem_of_getElem? (i := 756) (by decide +kernel)), by decide +kernel⟩
theorem kw_757 : (Jvm.Cond.fieldLink "TakinghallModel" (32 : Nat) "TakinghallModel" "hasWorks" "[Z") ∈ wG := List.mem_filter.mpr ⟨List.mem_append_right _ (List.mem_of_getElem? (i := 757) (by decide +kernel)), by decide +kernel⟩
theorem kw_758 : (Jvm.Cond.fieldLink "TakinghallModel" (36 : Nat) "TakinghallModel" "offers" "[I") ∈ wG := List.mem_filter.mpr ⟨List.mem_append_right _ (List.mem_of_getElem? (i := 758) (by decide +kernel)), by decide +kernel⟩
theorem kw_759 : (Jvm.Cond.fieldLink "TakinghallModel" (39 : Nat) "TakinghallModel" "offerPrices" "[I") ∈ wG := List.mem_filter.mpr ⟨List.mem_append_right _ (List.mem_of_getElem? (i := 759) (by decide +kernel)), by decide +kernel⟩
theorem kw_760 : (Jvm.Cond.fieldLink "TakinghallModel" (42 : Nat) "TakinghallModel" "lands" "[J") ∈ wG := List.mem_filter.mpr ⟨List.mem_append_right _ (List.mem_of_getElem? (i := 760) (by decide +kernel)), by decide +kernel⟩
theorem kw_761 : (Jvm.Cond.fieldLink "TakinghallModel" (108 : Nat) "TakinghallModel" "many" "I") ∈ wG := List.mem_filter.mpr ⟨List.mem_append_right _ (List.mem_of_getElem? (i := 761) (by decide +kernel)), by decide +kernel⟩
theorem kw_762 : (Jvm.Cond.fieldLink "TakinghallModel" (46 : Nat) "TakinghallModel" "kinds" "[I") ∈ wG := List.mem_filter.mpr ⟨List.mem_append_right _ (List.mem_of_getElem? (i := 762) (by decide +kernel)), by decide +kernel⟩
theorem kw_763 : (Jvm.Cond.fieldLink "TakinghallModel" (49 : Nat) "TakinghallModel" "plots" "[I") ∈ wG := List.mem_filter.mpr ⟨List.mem_append_right _ (List.mem_of_getElem? (i := 763) (by decide +kernel)), by decide +kernel⟩
theorem kw_764 : (Jvm.Cond.fieldLink "TakinghallModel" (52 : Nat) "TakinghallModel" "persons" "[I") ∈ wG := List.mem_filter.mpr ⟨List.mem_append_right _ (List.mem_of_getElem? (i := 764) (by decide +kernel)), by decide +kernel⟩
theorem kw_765 : (Jvm.Cond.fieldLink "TakinghallModel" (55 : Nat) "TakinghallModel" "since" "[I") ∈ wG := List.mem_filter.mpr ⟨List.mem_append_right _ (List.mem_of_getElem? (i := 765) (by decide +kernel)), by decide +kernel⟩
theorem kw_766 : (Jvm.Cond.fieldLink "TakinghallModel" (58 : Nat) "TakinghallModel" "numbers" "[I") ∈ wG := List.mem_filter.mpr ⟨List.mem_append_right _ (List.mem_of_getElem? (i := 766) (by decide +kernel)), by decide +kernel⟩
theorem kw_767 : (Jvm.Cond.fieldLink "TakinghallModel" (61 : Nat) "TakinghallModel" "notices" "[I") ∈ wG := List.mem_filter.mpr ⟨List.mem_append_right _ (List.mem_of_getElem? (i := 767) (by decide +kernel)), by decide +kernel⟩
theorem kw_768 : (Jvm.Cond.fieldLink "TakinghallModel" (64 : Nat) "TakinghallModel" "objections" "[I") ∈ wG := List.mem_filter.mpr ⟨List.mem_append_right _ (List.mem_of_getElem? (i := 768) (by decide +kernel)), by decide +kernel⟩
theorem kw_769 : (Jvm.Cond.fieldLink "TakinghallModel" (67 : Nat) "TakinghallModel" "sums" "[J") ∈ wG := List.mem_filter.mpr ⟨List.mem_append_right _ (List.mem_of_getElem? (i := 769) (by decide +kernel)), by decide +kernel⟩
theorem kw_770 : (Jvm.Cond.fieldLink "TakinghallModel" (70 : Nat) "TakinghallModel" "paid" "[J") ∈ wG := List.mem_filter.mpr ⟨List.mem_append_right _ (List.mem_of_getElem? (i := 770) (by decide +kernel)), by decide +kernel⟩
theorem kw_771 : (Jvm.Cond.fieldLink "TakinghallModel" (73 : Nat) "TakinghallModel" "advances" "[J") ∈ wG := List.mem_filter.mpr ⟨List.mem_append_right _ (List.mem_of_getElem? (i := 771) (by decide +kernel)), by decide +kernel⟩
theorem kw_772 : (Jvm.Cond.fieldLink "TakinghallModel" (76 : Nat) "TakinghallModel" "advanceDays" "[I") ∈ wG := List.mem_filter.mpr ⟨List.mem_append_right _ (List.mem_of_getElem? (i := 772) (by decide +kernel)), by decide +kernel⟩
theorem kw_773 : (Jvm.Cond.fieldLink "TakinghallModel" (79 : Nat) "TakinghallModel" "isSettled" "[Z") ∈ wG := List.mem_filter.mpr ⟨List.mem_append_right _ (List.mem_of_getElem? (i := 773) (by decide +kernel)), by decide +kernel⟩
theorem kw_774 : (Jvm.Cond.fieldLink "TakinghallModel" (111 : Nat) "TakinghallModel" "schemeMany" "I") ∈ wG := List.mem_filter.mpr ⟨List.mem_append_right _ (List.mem_of_getElem? (i := 774) (by decide +kernel)), by decide +kernel⟩
theorem kw_775 : (Jvm.Cond.fieldLink "TakinghallModel" (82 : Nat) "TakinghallModel" "harms" "[I") ∈ wG := List.mem_filter.mpr ⟨List.mem_append_right _ (List.mem_of_getElem? (i := 775) (by decide +kernel)), by decide +kernel⟩
theorem kw_776 : (Jvm.Cond.fieldLink "TakinghallModel" (85 : Nat) "TakinghallModel" "rises" "[I") ∈ wG := List.mem_filter.mpr ⟨List.mem_append_right _ (List.mem_of_getElem? (i := 776) (by decide +kernel)), by decide +kernel⟩
theorem kw_777 : (Jvm.Cond.fieldLink "TakinghallModel" (88 : Nat) "TakinghallModel" "stages" "[I") ∈ wG := List.mem_filter.mpr ⟨List.mem_append_right _ (List.mem_of_getElem? (i := 777) (by decide +kernel)), by decide +kernel⟩
theorem kw_778 : (Jvm.Cond.fieldLink "TakinghallModel" (91 : Nat) "TakinghallModel" "confirmDays" "[I") ∈ wG := List.mem_filter.mpr ⟨List.mem_append_right _ (List.mem_of_getElem? (i := 778) (by decide +kernel)), by decide +kernel⟩
theorem kw_779 : (Jvm.Cond.fieldLink "TakinghallModel" (94 : Nat) "TakinghallModel" "dropDays" "[I") ∈ wG := List.mem_filter.mpr ⟨List.mem_append_right _ (List.mem_of_getElem? (i := 779) (by decide +kernel)), by decide +kernel⟩
theorem kw_780 : (Jvm.Cond.fieldLink "TakinghallModel" (181 : Nat) "TakinghallModel" "court" "J") ∈ wG := List.mem_filter.mpr ⟨List.mem_append_right _ (List.mem_of_getElem? (i := 780) (by decide +kernel)), by decide +kernel⟩
theorem kw_781 : (Jvm.Cond.fieldLink "TakinghallModel" (204 : Nat) "TakinghallModel" "forBack" "J") ∈ wG := List.mem_filter.mpr ⟨List.mem_append_right _ (List.mem_of_getElem? (i := 781) (by decide +kernel)), by decide +kernel⟩
theorem kw_782 : (Jvm.Cond.fieldLink "TakinghallModel" (97 : Nat) "TakinghallModel" "profits" "[I") ∈ wG := List.mem_filter.mpr ⟨List.mem_append_right _ (List.mem_of_getElem? (i := 782) (by decide +kernel)), by decide +kernel⟩
theorem kw_783 : (Jvm.Cond.lays "TakinghallModel" "TakinghallModel" "thrown" "I") ∈ wG := List.mem_filter.mpr ⟨List.mem_append_right _ (List.mem_of_getElem? (i := 783) (by decide +kernel)), by decide +kernel⟩
theorem kw_785 : (Jvm.Cond.lays "TakinghallModel" "TakinghallModel" "today" "I") ∈ wG := List.mem_filter.mpr ⟨List.mem_append_right _ (List.mem_of_getElem? (i := 785) (by decide +kernel)), by decide +kernel⟩
theorem kw_787 : (Jvm.Cond.laysFinal "TakinghallModel" "TakinghallModel" "prices" "[I") ∈ wG := List.mem_filter.mpr ⟨List.mem_append_right _ (List.mem_of_getElem? (i := 787) (by decide +kernel)), by decide +kernel⟩
theorem kw_789 : (Jvm.Cond.laysFinal "TakinghallModel" "TakinghallModel" "areas" "[I") ∈ wG := List.mem_filter.mpr ⟨List.mem_append_right _ (List.mem_of_getElem? (i := 789) (by decide +kernel)), by decide +kernel⟩
theorem kw_791 : (Jvm.Cond.laysFinal "TakinghallModel" "TakinghallModel" "uses" "[I") ∈ wG := List.mem_filter.mpr ⟨List.mem_append_right _ (List.mem_of_getElem? (i := 791) (by decide +kernel)), by decide +kernel⟩
theorem kw_793 : (Jvm.Cond.laysFinal "TakinghallModel" "TakinghallModel" "states" "[I") ∈ wG := List.mem_filter.mpr ⟨List.mem_append_right _ (List.mem_of_getElem? (i := 793) (by decide +kernel)), by decide +kernel⟩
theorem kw_795 : (Jvm.Cond.laysFinal "TakinghallModel" "TakinghallModel" "needers" "[I") ∈ wG := List.mem_filter.mpr ⟨List.mem_append_right _ (List.mem_of_getElem? (i := 795) (by decide +kernel)), by decide +kernel⟩
theorem kw_797 : (Jvm.Cond.laysFinal "TakinghallModel" "TakinghallModel" "parts" "[I") ∈ wG := List.mem_filter.mpr ⟨List.mem_append_right _ (List.mem_of_getElem? (i := 797) (by decide +kernel)), by decide +kernel⟩
theorem kw_799 : (Jvm.Cond.laysFinal "TakinghallModel" "TakinghallModel" "valueDays" "[I") ∈ wG := List.mem_filter.mpr ⟨List.mem_append_right _ (List.mem_of_getElem? (i := 799) (by decide +kernel)), by decide +kernel⟩
theorem kw_801 : (Jvm.Cond.laysFinal "TakinghallModel" "TakinghallModel" "hasWorks" "[Z") ∈ wG := List.mem_filter.mpr ⟨List.mem_append_right _ (List.mem_of_getElem? (i := 801) (by decide +kernel)), by decide +kernel⟩
theorem kw_803 : (Jvm.Cond.laysFinal "TakinghallModel" "TakinghallModel" "offers" "[I") ∈ wG := List.mem_filter.mpr ⟨List.mem_append_right _ (List.mem_of_getElem? (i := 803) (by decide +kernel)), by decide +kernel⟩
theorem kw_805 : (Jvm.Cond.laysFinal "TakinghallModel" "TakinghallModel" "offerPrices" "[I") ∈ wG := List.mem_filter.mpr ⟨List.mem_append_right _ (List.mem_of_getElem? (i := 805) (by decide +kernel)), by decide +kernel⟩
theorem kw_807 : (Jvm.Cond.laysFinal "TakinghallModel" "TakinghallModel" "lands" "[J") ∈ wG := List.mem_filter.mpr ⟨List.mem_append_right _ (List.mem_of_getElem? (i := 807) (by decide +kernel)), by decide +kernel⟩
theorem kw_809 : (Jvm.Cond.lays "TakinghallModel" "TakinghallModel" "many" "I") ∈ wG := List.mem_filter.mpr ⟨List.mem_append_right _ (List.mem_of_getElem? (i := 809) (by decide +kernel)), by decide +kernel⟩
theorem kw_811 : (Jvm.Cond.laysFinal "TakinghallModel" "TakinghallModel" "kinds" "[I") ∈ wG := List.mem_filter.mpr ⟨List.mem_append_right _ (List.mem_of_getElem? (i := 811) (by decide +kernel)), by decide +kernel⟩
theorem kw_813 : (Jvm.Cond.laysFinal "TakinghallModel" "TakinghallModel" "plots" "[I") ∈ wG := List.mem_filter.mpr ⟨List.mem_append_right _ (List.mem_of_getElem? (i := 813) (by decide +kernel)), by decide +kernel⟩
theorem kw_815 : (Jvm.Cond.laysFinal "TakinghallModel" "TakinghallModel" "persons" "[I") ∈ wG := List.mem_filter.mpr ⟨List.mem_append_right _ (List.mem_of_getElem? (i := 815) (by decide +kernel)), by decide +kernel⟩
theorem kw_817 : (Jvm.Cond.laysFinal "TakinghallModel" "TakinghallModel" "since" "[I") ∈ wG := List.mem_filter.mpr ⟨List.mem_append_right _ (List.mem_of_getElem? (i := 817) (by decide +kernel)), by decide +kernel⟩
theorem kw_819 : (Jvm.Cond.laysFinal "TakinghallModel" "TakinghallModel" "numbers" "[I") ∈ wG := List.mem_filter.mpr ⟨List.mem_append_right _ (List.mem_of_getElem? (i := 819) (by decide +kernel)), by decide +kernel⟩
theorem kw_821 : (Jvm.Cond.laysFinal "TakinghallModel" "TakinghallModel" "notices" "[I") ∈ wG := List.mem_filter.mpr ⟨List.mem_append_right _ (List.mem_of_getElem? (i := 821) (by decide +kernel)), by decide +kernel⟩
theorem kw_823 : (Jvm.Cond.laysFinal "TakinghallModel" "TakinghallModel" "objections" "[I") ∈ wG := List.mem_filter.mpr ⟨List.mem_append_right _ (List.mem_of_getElem? (i := 823) (by decide +kernel)), by decide +kernel⟩
theorem kw_825 : (Jvm.Cond.laysFinal "TakinghallModel" "TakinghallModel" "sums" "[J") ∈ wG := List.mem_filter.mpr ⟨List.mem_append_right _ (List.mem_of_getElem? (i := 825) (by decide +kernel)), by decide +kernel⟩
theorem kw_827 : (Jvm.Cond.laysFinal "TakinghallModel" "TakinghallModel" "paid" "[J") ∈ wG := List.mem_filter.mpr ⟨List.mem_append_right _ (List.mem_of_getElem? (i := 827) (by decide +kernel)), by decide +kernel⟩
theorem kw_829 : (Jvm.Cond.laysFinal "TakinghallModel" "TakinghallModel" "advances" "[J") ∈ wG := List.mem_filter.mpr ⟨List.mem_append_right _ (List.mem_of_getElem? (i := 829) (by decide +kernel)), by decide +kernel⟩
theorem kw_831 : (Jvm.Cond.laysFinal "TakinghallModel" "TakinghallModel" "advanceDays" "[I") ∈ wG := List.mem_filter.mpr ⟨List.mem_append_right _ (List.mem_of_getElem? (i := 831) (by decide +kernel)), by decide +kernel⟩
theorem kw_833 : (Jvm.Cond.laysFinal "TakinghallModel" "TakinghallModel" "isSettled" "[Z") ∈ wG := List.mem_filter.mpr ⟨List.mem_append_right _ (List.mem_of_getElem? (i := 833) (by decide +kernel)), by decide +kernel⟩
theorem kw_835 : (Jvm.Cond.lays "TakinghallModel" "TakinghallModel" "schemeMany" "I") ∈ wG := List.mem_filter.mpr ⟨List.mem_append_right _ (List.mem_of_getElem? (i := 835) (by decide +kernel)), by decide +kernel⟩
theorem kw_837 : (Jvm.Cond.laysFinal "TakinghallModel" "TakinghallModel" "harms" "[I") ∈ wG := List.mem_filter.mpr ⟨List.mem_append_right _ (List.mem_of_getElem? (i := 837) (by decide +kernel)), by decide +kernel⟩
theorem kw_839 : (Jvm.Cond.laysFinal "TakinghallModel" "TakinghallModel" "rises" "[I") ∈ wG := List.mem_filter.mpr ⟨List.mem_append_right _ (List.mem_of_getElem? (i := 839) (by decide +kernel)), by decide +kernel⟩
theorem kw_841 : (Jvm.Cond.laysFinal "TakinghallModel" "TakinghallModel" "stages" "[I") ∈ wG := List.mem_filter.mpr ⟨List.mem_append_right _ (List.mem_of_getElem? (i := 841) (by decide +kernel)), by decide +kernel⟩
theorem kw_843 : (Jvm.Cond.laysFinal "TakinghallModel" "TakinghallModel" "confirmDays" "[I") ∈ wG := List.mem_filter.mpr ⟨List.mem_append_right _ (List.mem_of_getElem? (i := 843) (by decide +kernel)), by decide +kernel⟩
theorem kw_845 : (Jvm.Cond.laysFinal "TakinghallModel" "TakinghallModel" "dropDays" "[I") ∈ wG := List.mem_filter.mpr ⟨List.mem_append_right _ (List.mem_of_getElem? (i := 845) (by decide +kernel)), by decide +kernel⟩
theorem kw_847 : (Jvm.Cond.lays "TakinghallModel" "TakinghallModel" "court" "J") ∈ wG := List.mem_filter.mpr ⟨List.mem_append_right _ (List.mem_of_getElem? (i := 847) (by decide +kernel)), by decide +kernel⟩
theorem kw_849 : (Jvm.Cond.lays "TakinghallModel" "TakinghallModel" "forBack" "J") ∈ wG := List.mem_filter.mpr ⟨List.mem_append_right _ (List.mem_of_getElem? (i := 849) (by decide +kernel)), by decide +kernel⟩
theorem kw_851 : (Jvm.Cond.laysFinal "TakinghallModel" "TakinghallModel" "profits" "[I") ∈ wG := List.mem_filter.mpr ⟨List.mem_append_right _ (List.mem_of_getElem? (i := 851) (by decide +kernel)), by decide +kernel⟩
theorem kw_854 : (Jvm.Cond.arrayClass Jvm.ClassFile.FieldType.int) ∈ wG := List.mem_filter.mpr ⟨List.mem_append_right _ (List.mem_of_getElem? (i := 854) (by decide +kernel)), by decide +kernel⟩
theorem kw_855 : (Jvm.Cond.arrayClass Jvm.ClassFile.FieldType.boolean) ∈ wG := List.mem_filter.mpr ⟨List.mem_append_right _ (List.mem_of_getElem? (i := 855) (by decide +kernel)), by decide +kernel⟩
theorem kw_856 : (Jvm.Cond.arrayClass Jvm.ClassFile.FieldType.long) ∈ wG := List.mem_filter.mpr ⟨List.mem_append_right _ (List.mem_of_getElem? (i := 856) (by decide +kernel)), by decide +kernel⟩
theorem kw_857 : (Jvm.Cond.methodLink "TakinghallLaw" (122 : Nat) ({ cls := "TakinghallModel", name := "thrown", desc := "()I" } : Jvm.MethodName)) ∈ wG := List.mem_filter.mpr ⟨List.mem_append_right _ (List.mem_of_getElem? (i := 857) (by decide +kernel)), by decide +kernel⟩
theorem kw_858 : (Jvm.Cond.instanceMethod ({ cls := "TakinghallModel", name := "thrown", desc := "()I" } : Jvm.MethodName)) ∈ wG := List.mem_filter.mpr ⟨List.mem_append_right _ (List.mem_of_getElem? (i := 858) (by decide +kernel)), by decide +kernel⟩
theorem kw_859 : (Jvm.Cond.selects "TakinghallModel" ({ cls := "TakinghallModel", name := "thrown", desc := "()I" } : Jvm.MethodName) ({ cls := "TakinghallModel", name := "thrown", desc := "()I" } : Jvm.MethodName)) ∈ wG := List.mem_filter.mpr ⟨List.mem_append_right _ (List.mem_of_getElem? (i := 859) (by decide +kernel)), by decide +kernel⟩
theorem kw_860 : (Jvm.Cond.code ({ cls := "TakinghallModel", name := "thrown", desc := "()I" } : Jvm.MethodName) prog_7_method_2_code (1 : Nat) (Option.some Jvm.ClassFile.FieldType.int)) ∈ wG := List.mem_filter.mpr ⟨List.mem_append_right _ (List.mem_of_getElem? (i := 860) (by decide +kernel)), by decide +kernel⟩
theorem kw_861 : (Jvm.Cond.methodLink "TakinghallLaw" (121 : Nat) ({ cls := "TakinghallModel", name := "plot", desc := "(III)I" } : Jvm.MethodName)) ∈ wG := List.mem_filter.mpr ⟨List.mem_append_right _ (List.mem_of_getElem? (i := 861) (by decide +kernel)), by decide +kernel⟩
theorem kw_862 : (Jvm.Cond.instanceMethod ({ cls := "TakinghallModel", name := "plot", desc := "(III)I" } : Jvm.MethodName)) ∈ wG := List.mem_filter.mpr ⟨List.mem_append_right _ (List.mem_of_getElem? (i := 862) (by decide +kernel)), by decide +kernel⟩
theorem kw_863 : (Jvm.Cond.selects "TakinghallModel" ({ cls := "TakinghallModel", name := "plot", desc := "(III)I" } : Jvm.MethodName) ({ cls := "TakinghallModel", name := "plot", desc := "(III)I" } : Jvm.MethodName)) ∈ wG := List.mem_filter.mpr ⟨List.mem_append_right _ (List.mem_of_getElem? (i := 863) (by decide +kernel)), by decide +kernel⟩
theorem kw_864 : (Jvm.Cond.code ({ cls := "TakinghallModel", name := "plot", desc := "(III)I" } : Jvm.MethodName) prog_7_method_8_code (5 : Nat) (Option.some Jvm.ClassFile.FieldType.int)) ∈ wG := List.mem_filter.mpr ⟨List.mem_append_right _ (List.mem_of_getElem? (i := 864) (by decide +kernel)), by decide +kernel⟩
theorem kw_865 : (Jvm.Cond.methodLink "TakinghallModel" (114 : Nat) ({ cls := "TakinghallModel", name := "isPlot", desc := "(I)Z" } : Jvm.MethodName)) ∈ wG := List.mem_filter.mpr ⟨List.mem_append_right _ (List.mem_of_getElem? (i := 865) (by decide +kernel)), by decide +kernel⟩
theorem kw_867 : (Jvm.Cond.instanceMethod ({ cls := "TakinghallModel", name := "isPlot", desc := "(I)Z" } : Jvm.MethodName)) ∈ wG := List.mem_filter.mpr ⟨List.mem_append_right _ (List.mem_of_getElem? (i := 867) (by decide +kernel)), by decide +kernel⟩
theorem kw_868 : (Jvm.Cond.code ({ cls := "TakinghallModel", name := "isPlot", desc := "(I)Z" } : Jvm.MethodName) prog_7_method_4_code (2 : Nat) (Option.some Jvm.ClassFile.FieldType.boolean)) ∈ wG := List.mem_filter.mpr ⟨List.mem_append_right _ (List.mem_of_getElem? (i := 868) (by decide +kernel)), by decide +kernel⟩
theorem kw_869 : (Jvm.Cond.methodLink "TakinghallModel" (104 : Nat) ({ cls := "TakinghallModel", name := "between", desc := "(III)Z" } : Jvm.MethodName)) ∈ wG := List.mem_filter.mpr ⟨List.mem_append_right _ (List.mem_of_getElem? (i := 869) (by decide +kernel)), by decide +kernel⟩
theorem kw_871 : (Jvm.Cond.instanceMethod ({ cls := "TakinghallModel", name := "between", desc := "(III)Z" } : Jvm.MethodName)) ∈ wG := List.mem_filter.mpr ⟨List.mem_append_right _ (List.mem_of_getElem? (i := 871) (by decide +kernel)), by decide +kernel⟩
theorem kw_872 : (Jvm.Cond.code ({ cls := "TakinghallModel", name := "between", desc := "(III)Z" } : Jvm.MethodName) prog_7_method_3_code (4 : Nat) (Option.some Jvm.ClassFile.FieldType.boolean)) ∈ wG := List.mem_filter.mpr ⟨List.mem_append_right _ (List.mem_of_getElem? (i := 872) (by decide +kernel)), by decide +kernel⟩
theorem kw_873 : (Jvm.Cond.methodLink "TakinghallModel" (118 : Nat) ({ cls := "TakinghallModel", name := "isUse", desc := "(I)Z" } : Jvm.MethodName)) ∈ wG := List.mem_filter.mpr ⟨List.mem_append_right _ (List.mem_of_getElem? (i := 873) (by decide +kernel)), by decide +kernel⟩
theorem kw_875 : (Jvm.Cond.instanceMethod ({ cls := "TakinghallModel", name := "isUse", desc := "(I)Z" } : Jvm.MethodName)) ∈ wG := List.mem_filter.mpr ⟨List.mem_append_right _ (List.mem_of_getElem? (i := 875) (by decide +kernel)), by decide +kernel⟩
theorem kw_876 : (Jvm.Cond.code ({ cls := "TakinghallModel", name := "isUse", desc := "(I)Z" } : Jvm.MethodName) prog_7_method_5_code (2 : Nat) (Option.some Jvm.ClassFile.FieldType.boolean)) ∈ wG := List.mem_filter.mpr ⟨List.mem_append_right _ (List.mem_of_getElem? (i := 876) (by decide +kernel)), by decide +kernel⟩
theorem kw_877 : (Jvm.Cond.methodLink "TakinghallLaw" (129 : Nat) ({ cls := "TakinghallModel", name := "price", desc := "(II)I" } : Jvm.MethodName)) ∈ wG := List.mem_filter.mpr ⟨List.mem_append_right _ (List.mem_of_getElem? (i := 877) (by decide +kernel)), by decide +kernel⟩
theorem kw_878 : (Jvm.Cond.instanceMethod ({ cls := "TakinghallModel", name := "price", desc := "(II)I" } : Jvm.MethodName)) ∈ wG := List.mem_filter.mpr ⟨List.mem_append_right _ (List.mem_of_getElem? (i := 878) (by decide +kernel)), by decide +kernel⟩
theorem kw_879 : (Jvm.Cond.selects "TakinghallModel" ({ cls := "TakinghallModel", name := "price", desc := "(II)I" } : Jvm.MethodName) ({ cls := "TakinghallModel", name := "price", desc := "(II)I" } : Jvm.MethodName)) ∈ wG := List.mem_filter.mpr ⟨List.mem_append_right _ (List.mem_of_getElem? (i := 879) (by decide +kernel)), by decide +kernel⟩
theorem kw_880 : (Jvm.Cond.code ({ cls := "TakinghallModel", name := "price", desc := "(II)I" } : Jvm.MethodName) prog_7_method_9_code (4 : Nat) (Option.some Jvm.ClassFile.FieldType.int)) ∈ wG := List.mem_filter.mpr ⟨List.mem_append_right _ (List.mem_of_getElem? (i := 880) (by decide +kernel)), by decide +kernel⟩
theorem kw_881 : (Jvm.Cond.methodLink "TakinghallLaw" (132 : Nat) ({ cls := "TakinghallModel", name := "worth", desc := "(II)I" } : Jvm.MethodName)) ∈ wG := List.mem_filter.mpr ⟨List.mem_append_right _ (List.mem_of_getElem? (i := 881) (by decide +kernel)), by decide +kernel⟩
theorem kw_882 : (Jvm.Cond.instanceMethod ({ cls := "TakinghallModel", name := "worth", desc := "(II)I" } : Jvm.MethodName)) ∈ wG := List.mem_filter.mpr ⟨List.mem_append_right _ (List.mem_of_getElem? (i := 882) (by decide +kernel)), by decide +kernel⟩
theorem kw_883 : (Jvm.Cond.selects "TakinghallModel" ({ cls := "TakinghallModel", name := "worth", desc := "(II)I" } : Jvm.MethodName) ({ cls := "TakinghallModel", name := "worth", desc := "(II)I" } : Jvm.MethodName)) ∈ wG := List.mem_filter.mpr ⟨List.mem_append_right _ (List.mem_of_getElem? (i := 883) (by decide +kernel)), by decide +kernel⟩
theorem kw_884 : (Jvm.Cond.code ({ cls := "TakinghallModel", name := "worth", desc := "(II)I" } : Jvm.MethodName) prog_7_method_11_code (3 : Nat) (Option.some Jvm.ClassFile.FieldType.int)) ∈ wG := List.mem_filter.mpr ⟨List.mem_append_right _ (List.mem_of_getElem? (i := 884) (by decide +kernel)), by decide +kernel⟩
theorem kw_885 : (Jvm.Cond.methodLink "TakinghallModel" (124 : Nat) ({ cls := "TakinghallModel", name := "worthOn", desc := "(II)I" } : Jvm.MethodName)) ∈ wG := List.mem_filter.mpr ⟨List.mem_append_right _ (List.mem_of_getElem? (i := 885) (by decide +kernel)), by decide +kernel⟩
theorem kw_887 : (Jvm.Cond.instanceMethod ({ cls := "TakinghallModel", name := "worthOn", desc := "(II)I" } : Jvm.MethodName)) ∈ wG := List.mem_filter.mpr ⟨List.mem_append_right _ (List.mem_of_getElem? (i := 887) (by decide +kernel)), by decide +kernel⟩
theorem kw_888 : (Jvm.Cond.code ({ cls := "TakinghallModel", name := "worthOn", desc := "(II)I" } : Jvm.MethodName) prog_7_method_10_code (3 : Nat) (Option.some Jvm.ClassFile.FieldType.int)) ∈ wG := List.mem_filter.mpr ⟨List.mem_append_right _ (List.mem_of_getElem? (i := 888) (by decide +kernel)), by decide +kernel⟩
theorem kw_889 : (Jvm.Cond.methodLink "TakinghallLaw" (136 : Nat) ({ cls := "TakinghallModel", name := "market", desc := "(I)I" } : Jvm.MethodName)) ∈ wG := List.mem_filter.mpr ⟨List.mem_append_right _ (List.mem_of_getElem? (i := 889) (by decide +kernel)), by decide +kernel⟩
theorem kw_890 : (Jvm.Cond.instanceMethod ({ cls := "TakinghallModel", name := "market", desc := "(I)I" } : Jvm.MethodName)) ∈ wG := List.mem_filter.mpr ⟨List.mem_append_right _ (List.mem_of_getElem? (i := 890) (by decide +kernel)), by decide +kernel⟩
theorem kw_891 : (Jvm.Cond.selects "TakinghallModel" ({ cls := "TakinghallModel", name := "market", desc := "(I)I" } : Jvm.MethodName) ({ cls := "TakinghallModel", name := "market", desc := "(I)I" } : Jvm.MethodName)) ∈ wG := List.mem_filter.mpr ⟨List.mem_append_right _ (List.mem_of_getElem? (i := 891) (by decide +kernel)), by decide +kernel⟩
theorem kw_892 : (Jvm.Cond.code ({ cls := "TakinghallModel", name := "market", desc := "(I)I" } : Jvm.MethodName) prog_7_method_13_code (3 : Nat) (Option.some Jvm.ClassFile.FieldType.int)) ∈ wG := List.mem_filter.mpr ⟨List.mem_append_right _ (List.mem_of_getElem? (i := 892) (by decide +kernel)), by decide +kernel⟩
theorem kw_893 : (Jvm.Cond.methodLink "TakinghallModel" (128 : Nat) ({ cls := "TakinghallModel", name := "isNeededBeside", desc := "(I)Z" } : Jvm.MethodName)) ∈ wG := List.mem_filter.mpr ⟨List.mem_append_right _ (List.mem_of_getElem? (i := 893) (by decide +kernel)), by decide +kernel⟩
theorem kw_895 : (Jvm.Cond.instanceMethod ({ cls := "TakinghallModel", name := "isNeededBeside", desc := "(I)Z" } : Jvm.MethodName)) ∈ wG := List.mem_filter.mpr ⟨List.mem_append_right _ (List.mem_of_getElem? (i := 895) (by decide +kernel)), by decide +kernel⟩
theorem kw_896 : (Jvm.Cond.code ({ cls := "TakinghallModel", name := "isNeededBeside", desc := "(I)Z" } : Jvm.MethodName) prog_7_method_12_code (4 : Nat) (Option.some Jvm.ClassFile.FieldType.boolean)) ∈ wG := List.mem_filter.mpr ⟨List.mem_append_right _ (List.mem_of_getElem? (i := 896) (by decide +kernel)), by decide +kernel⟩
theorem kw_897 : (Jvm.Cond.methodLink "TakinghallLaw" (139 : Nat) ({ cls := "TakinghallModel", name := "plotOf", desc := "(II)I" } : Jvm.MethodName)) ∈ wG := List.mem_filter.mpr ⟨List.mem_append_right _ (List.mem_of_getElem? (i := 897) (by decide +kernel)), by decide +kernel⟩
theorem kw_898 : (Jvm.Cond.instanceMethod ({ cls := "TakinghallModel", name := "plotOf", desc := "(II)I" } : Jvm.MethodName)) ∈ wG := List.mem_filter.mpr ⟨List.mem_append_right _ (List.mem_of_getElem? (i := 898) (by decide +kernel)), by decide +kernel⟩
theorem kw_899 : (Jvm.Cond.selects "TakinghallModel" ({ cls := "TakinghallModel", name := "plotOf", desc := "(II)I" } : Jvm.MethodName) ({ cls := "TakinghallModel", name := "plotOf", desc := "(II)I" } : Jvm.MethodName)) ∈ wG := List.mem_filter.mpr ⟨List.mem_append_right _ (List.mem_of_getElem? (i := 899) (by decide +kernel)), by decide +kernel⟩
theorem kw_900 : (Jvm.Cond.code ({ cls := "TakinghallModel", name := "plotOf", desc := "(II)I" } : Jvm.MethodName) prog_7_method_14_code (3 : Nat) (Option.some Jvm.ClassFile.FieldType.int)) ∈ wG := List.mem_filter.mpr ⟨List.mem_append_right _ (List.mem_of_getElem? (i := 900) (by decide +kernel)), by decide +kernel⟩
theorem kw_901 : (Jvm.Cond.methodLink "TakinghallLaw" (142 : Nat) ({ cls := "TakinghallModel", name := "own", desc := "(III)I" } : Jvm.MethodName)) ∈ wG := List.mem_filter.mpr ⟨List.mem_append_right _ (List.mem_of_getElem? (i := 901) (by decide +kernel)), by decide +kernel⟩
theorem kw_902 : (Jvm.Cond.instanceMethod ({ cls := "TakinghallModel", name := "own", desc := "(III)I" } : Jvm.MethodName)) ∈ wG := List.mem_filter.mpr ⟨List.mem_append_right _ (List.mem_of_getElem? (i := 902) (by decide +kernel)), by decide +kernel⟩
theorem kw_903 : (Jvm.Cond.selects "TakinghallModel" ({ cls := "TakinghallModel", name := "own", desc := "(III)I" } : Jvm.MethodName) ({ cls := "TakinghallModel", name := "own", desc := "(III)I" } : Jvm.MethodName)) ∈ wG := List.mem_filter.mpr ⟨List.mem_append_right _ (List.mem_of_getElem? (i := 903) (by decide +kernel)), by decide +kernel⟩
theorem kw_904 : (Jvm.Cond.code ({ cls := "TakinghallModel", name := "own", desc := "(III)I" } : Jvm.MethodName) prog_7_method_16_code (7 : Nat) (Option.some Jvm.ClassFile.FieldType.int)) ∈ wG := List.mem_filter.mpr ⟨List.mem_append_right _ (List.mem_of_getElem? (i := 904) (by decide +kernel)), by decide +kernel⟩
theorem kw_905 : (Jvm.Cond.methodLink "TakinghallModel" (131 : Nat) ({ cls := "TakinghallModel", name := "tell", desc := "(IIIIZ)I" } : Jvm.MethodName)) ∈ wG := List.mem_filter.mpr ⟨List.mem_append_right _ (List.mem_of_getElem? (i := 905) (by decide +kernel)), by decide +kernel⟩
theorem kw_907 : (Jvm.Cond.instanceMethod ({ cls := "TakinghallModel", name := "tell", desc := "(IIIIZ)I" } : Jvm.MethodName)) ∈ wG := List.mem_filter.mpr ⟨List.mem_append_right _ (List.mem_of_getElem? (i := 907) (by decide +kernel)), by decide +kernel⟩
theorem kw_908 : (Jvm.Cond.code ({ cls := "TakinghallModel", name := "tell", desc := "(IIIIZ)I" } : Jvm.MethodName) prog_7_method_15_code (6 : Nat) (Option.some Jvm.ClassFile.FieldType.int)) ∈ wG := List.mem_filter.mpr ⟨List.mem_append_right _ (List.mem_of_getElem? (i := 908) (by decide +kernel)), by decide +kernel⟩
theorem kw_909 : (Jvm.Cond.methodLink "TakinghallLaw" (146 : Nat) ({ cls := "TakinghallModel", name := "lease", desc := "(IIII)I" } : Jvm.MethodName)) ∈ wG := List.mem_filter.mpr ⟨List.mem_append_right _ (List.mem_of_getElem? (i := 909) (by decide +kernel)), by decide +kernel⟩
theorem kw_910 : (Jvm.Cond.instanceMethod ({ cls := "TakinghallModel", name := "lease", desc := "(IIII)I" } : Jvm.MethodName)) ∈ wG := List.mem_filter.mpr ⟨List.mem_append_right _ (List.mem_of_getElem? (i := 910) (by decide +kernel)), by decide +kernel⟩
theorem kw_911 : (Jvm.Cond.selects "TakinghallModel" ({ cls := "TakinghallModel", name := "lease", desc := "(IIII)I" } : Jvm.MethodName) ({ cls := "TakinghallModel", name := "lease", desc := "(IIII)I" } : Jvm.MethodName)) ∈ wG := List.mem_filter.mpr ⟨List.mem_append_right _ (List.mem_of_getElem? (i := 911) (by decide +kernel)), by decide +kernel⟩
theorem kw_912 : (Jvm.Cond.code ({ cls := "TakinghallModel", name := "lease", desc := "(IIII)I" } : Jvm.MethodName) prog_7_method_17_code (6 : Nat) (Option.some Jvm.ClassFile.FieldType.int)) ∈ wG := List.mem_filter.mpr ⟨List.mem_append_right _ (List.mem_of_getElem? (i := 912) (by decide +kernel)), by decide +kernel⟩
theorem kw_913 : (Jvm.Cond.methodLink "TakinghallLaw" (149 : Nat) ({ cls := "TakinghallModel", name := "charge", desc := "(III)I" } : Jvm.MethodName)) ∈ wG := List.mem_filter.mpr ⟨List.mem_append_right _ (List.mem_of_getElem? (i := 913) (by decide +kernel)), by decide +kernel⟩
theorem kw_914 : (Jvm.Cond.instanceMethod ({ cls := "TakinghallModel", name := "charge", desc := "(III)I" } : Jvm.MethodName)) ∈ wG := List.mem_filter.mpr ⟨List.mem_append_right _ (List.mem_of_getElem? (i := 914) (by decide +kernel)), by decide +kernel⟩
theorem kw_915 : (Jvm.Cond.selects "TakinghallModel" ({ cls := "TakinghallModel", name := "charge", desc := "(III)I" } : Jvm.MethodName) ({ cls := "TakinghallModel", name := "charge", desc := "(III)I" } : Jvm.MethodName)) ∈ wG := List.mem_filter.mpr ⟨List.mem_append_right _ (List.mem_of_getElem? (i := 915) (by decide +kernel)), by decide +kernel⟩
theorem kw_916 : (Jvm.Cond.code ({ cls := "TakinghallModel", name := "charge", desc := "(III)I" } : Jvm.MethodName) prog_7_method_18_code (4 : Nat) (Option.some Jvm.ClassFile.FieldType.int)) ∈ wG := List.mem_filter.mpr ⟨List.mem_append_right _ (List.mem_of_getElem? (i := 916) (by decide +kernel)), by decide +kernel⟩
theorem kw_917 : (Jvm.Cond.constant "TakinghallModel" (135 : Nat) (100000 : Int32)) ∈ wG := List.mem_filter.mpr ⟨List.mem_append_right _ (List.mem_of_getElem? (i := 917) (by decide +kernel)), by decide +kernel⟩
theorem kw_918 : (Jvm.Cond.methodLink "TakinghallLaw" (152 : Nat) ({ cls := "TakinghallModel", name := "interestOf", desc := "(II)J" } : Jvm.MethodName)) ∈ wG := List.mem_filter.mpr ⟨List.mem_append_right _ (List.mem_of_getElem? (i := 918) (by decide +kernel)), by decide +kernel⟩
theorem kw_919 : (Jvm.Cond.instanceMethod ({ cls := "TakinghallModel", name := "interestOf", desc := "(II)J" } : Jvm.MethodName)) ∈ wG := List.mem_filter.mpr ⟨List.mem_append_right _ (List.mem_of_getElem? (i := 919) (by decide +kernel)), by decide +kernel⟩
theorem kw_920 : (Jvm.Cond.selects "TakinghallModel" ({ cls := "TakinghallModel", name := "interestOf", desc := "(II)J" } : Jvm.MethodName) ({ cls := "TakinghallModel", name := "interestOf", desc := "(II)J" } : Jvm.MethodName)) ∈ wG := List.mem_filter.mpr ⟨List.mem_append_right _ (List.mem_of_getElem? (i := 920) (by decide +kernel)), by decide +kernel⟩
theorem kw_921 : (Jvm.Cond.code ({ cls := "TakinghallModel", name := "interestOf", desc := "(II)J" } : Jvm.MethodName) prog_7_method_19_code (3 : Nat) (Option.some Jvm.ClassFile.FieldType.long)) ∈ wG := List.mem_filter.mpr ⟨List.mem_append_right _ (List.mem_of_getElem? (i := 921) (by decide +kernel)), by decide +kernel⟩
theorem kw_922 : (Jvm.Cond.methodLink "TakinghallModel" (136 : Nat) ({ cls := "TakinghallModel", name := "isInterest", desc := "(I)Z" } : Jvm.MethodName)) ∈ wG := List.mem_filter.mpr ⟨List.mem_append_right _ (List.mem_of_getElem? (i := 922) (by decide +kernel)), by decide +kernel⟩
theorem kw_924 : (Jvm.Cond.instanceMethod ({ cls := "TakinghallModel", name := "isInterest", desc := "(I)Z" } : Jvm.MethodName)) ∈ wG := List.mem_filter.mpr ⟨List.mem_append_right _ (List.mem_of_getElem? (i := 924) (by decide +kernel)), by decide +kernel⟩
theorem kw_925 : (Jvm.Cond.code ({ cls := "TakinghallModel", name := "isInterest", desc := "(I)Z" } : Jvm.MethodName) prog_7_method_6_code (2 : Nat) (Option.some Jvm.ClassFile.FieldType.boolean)) ∈ wG := List.mem_filter.mpr ⟨List.mem_append_right _ (List.mem_of_getElem? (i := 925) (by decide +kernel)), by decide +kernel⟩
theorem kw_926 : (Jvm.Cond.methodLink "TakinghallLaw" (155 : Nat) ({ cls := "TakinghallModel", name := "scheme", desc := "(II)I" } : Jvm.MethodName)) ∈ wG := List.mem_filter.mpr ⟨List.mem_append_right _ (List.mem_of_getElem? (i := 926) (by decide +kernel)), by decide +kernel⟩
theorem kw_927 : (Jvm.Cond.instanceMethod ({ cls := "TakinghallModel", name := "scheme", desc := "(II)I" } : Jvm.MethodName)) ∈ wG := List.mem_filter.mpr ⟨List.mem_append_right _ (List.mem_of_getElem? (i := 927) (by decide +kernel)), by decide +kernel⟩
theorem kw_928 : (Jvm.Cond.selects "TakinghallModel" ({ cls := "TakinghallModel", name := "scheme", desc := "(II)I" } : Jvm.MethodName) ({ cls := "TakinghallModel", name := "scheme", desc := "(II)I" } : Jvm.MethodName)) ∈ wG := List.mem_filter.mpr ⟨List.mem_append_right _ (List.mem_of_getElem? (i := 928) (by decide +kernel)), by decide +kernel⟩
theorem kw_929 : (Jvm.Cond.code ({ cls := "TakinghallModel", name := "scheme", desc := "(II)I" } : Jvm.MethodName) prog_7_method_20_code (3 : Nat) (Option.some Jvm.ClassFile.FieldType.int)) ∈ wG := List.mem_filter.mpr ⟨List.mem_append_right _ (List.mem_of_getElem? (i := 929) (by decide +kernel)), by decide +kernel⟩
theorem kw_930 : (Jvm.Cond.methodLink "TakinghallLaw" (158 : Nat) ({ cls := "TakinghallModel", name := "draw", desc := "(III)I" } : Jvm.MethodName)) ∈ wG := List.mem_filter.mpr ⟨List.mem_append_right _ (List.mem_of_getElem? (i := 930) (by decide +kernel)), by decide +kernel⟩
theorem kw_931 : (Jvm.Cond.instanceMethod ({ cls := "TakinghallModel", name := "draw", desc := "(III)I" } : Jvm.MethodName)) ∈ wG := List.mem_filter.mpr ⟨List.mem_append_right _ (List.mem_of_getElem? (i := 931) (by decide +kernel)), by decide +kernel⟩
theorem kw_932 : (Jvm.Cond.selects "TakinghallModel" ({ cls := "TakinghallModel", name := "draw", desc := "(III)I" } : Jvm.MethodName) ({ cls := "TakinghallModel", name := "draw", desc := "(III)I" } : Jvm.MethodName)) ∈ wG := List.mem_filter.mpr ⟨List.mem_append_right _ (List.mem_of_getElem? (i := 932) (by decide +kernel)), by decide +kernel⟩
theorem kw_933 : (Jvm.Cond.code ({ cls := "TakinghallModel", name := "draw", desc := "(III)I" } : Jvm.MethodName) prog_7_method_22_code (4 : Nat) (Option.some Jvm.ClassFile.FieldType.int)) ∈ wG := List.mem_filter.mpr ⟨List.mem_append_right _ (List.mem_of_getElem? (i := 933) (by decide +kernel)), by decide +kernel⟩
theorem kw_934 : (Jvm.Cond.methodLink "TakinghallModel" (139 : Nat) ({ cls := "TakinghallModel", name := "isScheme", desc := "(I)Z" } : Jvm.MethodName)) ∈ wG := List.mem_filter.mpr ⟨List.mem_append_right _ (List.mem_of_getElem? (i := 934) (by decide +kernel)), by decide +kernel⟩
theorem kw_936 : (Jvm.Cond.instanceMethod ({ cls := "TakinghallModel", name := "isScheme", desc := "(I)Z" } : Jvm.MethodName)) ∈ wG := List.mem_filter.mpr ⟨List.mem_append_right _ (List.mem_of_getElem? (i := 936) (by decide +kernel)), by decide +kernel⟩
theorem kw_937 : (Jvm.Cond.code ({ cls := "TakinghallModel", name := "isScheme", desc := "(I)Z" } : Jvm.MethodName) prog_7_method_7_code (2 : Nat) (Option.some Jvm.ClassFile.FieldType.boolean)) ∈ wG := List.mem_filter.mpr ⟨List.mem_append_right _ (List.mem_of_getElem? (i := 937) (by decide +kernel)), by decide +kernel⟩
theorem kw_938 : (Jvm.Cond.methodLink "TakinghallModel" (142 : Nat) ({ cls := "TakinghallModel", name := "neededBy", desc := "(IZ)I" } : Jvm.MethodName)) ∈ wG := List.mem_filter.mpr ⟨List.mem_append_right _ (List.mem_of_getElem? (i := 938) (by decide +kernel)), by decide +kernel⟩
theorem kw_940 : (Jvm.Cond.instanceMethod ({ cls := "TakinghallModel", name := "neededBy", desc := "(IZ)I" } : Jvm.MethodName)) ∈ wG := List.mem_filter.mpr ⟨List.mem_append_right _ (List.mem_of_getElem? (i := 940) (by decide +kernel)), by decide +kernel⟩
theorem kw_941 : (Jvm.Cond.code ({ cls := "TakinghallModel", name := "neededBy", desc := "(IZ)I" } : Jvm.MethodName) prog_7_method_21_code (5 : Nat) (Option.some Jvm.ClassFile.FieldType.int)) ∈ wG := List.mem_filter.mpr ⟨List.mem_append_right _ (List.mem_of_getElem? (i := 941) (by decide +kernel)), by decide +kernel⟩
theorem kw_942 : (Jvm.Cond.methodLink "TakinghallLaw" (161 : Nat) ({ cls := "TakinghallModel", name := "notice", desc := "(I)I" } : Jvm.MethodName)) ∈ wG := List.mem_filter.mpr ⟨List.mem_append_right _ (List.mem_of_getElem? (i := 942) (by decide +kernel)), by decide +kernel⟩
theorem kw_943 : (Jvm.Cond.instanceMethod ({ cls := "TakinghallModel", name := "notice", desc := "(I)I" } : Jvm.MethodName)) ∈ wG := List.mem_filter.mpr ⟨List.mem_append_right _ (List.mem_of_getElem? (i := 943) (by decide +kernel)), by decide +kernel⟩
theorem kw_944 : (Jvm.Cond.selects "TakinghallModel" ({ cls := "TakinghallModel", name := "notice", desc := "(I)I" } : Jvm.MethodName) ({ cls := "TakinghallModel", name := "notice", desc := "(I)I" } : Jvm.MethodName)) ∈ wG := List.mem_filter.mpr ⟨List.mem_append_right _ (List.mem_of_getElem? (i := 944) (by decide +kernel)), by decide +kernel⟩
theorem kw_945 : (Jvm.Cond.code ({ cls := "TakinghallModel", name := "notice", desc := "(I)I" } : Jvm.MethodName) prog_7_method_24_code (2 : Nat) (Option.some Jvm.ClassFile.FieldType.int)) ∈ wG := List.mem_filter.mpr ⟨List.mem_append_right _ (List.mem_of_getElem? (i := 945) (by decide +kernel)), by decide +kernel⟩
theorem kw_946 : (Jvm.Cond.methodLink "TakinghallModel" (146 : Nat) ({ cls := "TakinghallModel", name := "isDrafted", desc := "(I)Z" } : Jvm.MethodName)) ∈ wG := List.mem_filter.mpr ⟨List.mem_append_right _ (List.mem_of_getElem? (i := 946) (by decide +kernel)), by decide +kernel⟩
theorem kw_948 : (Jvm.Cond.instanceMethod ({ cls := "TakinghallModel", name := "isDrafted", desc := "(I)Z" } : Jvm.MethodName)) ∈ wG := List.mem_filter.mpr ⟨List.mem_append_right _ (List.mem_of_getElem? (i := 948) (by decide +kernel)), by decide +kernel⟩
theorem kw_949 : (Jvm.Cond.code ({ cls := "TakinghallModel", name := "isDrafted", desc := "(I)Z" } : Jvm.MethodName) prog_7_method_23_code (3 : Nat) (Option.some Jvm.ClassFile.FieldType.boolean)) ∈ wG := List.mem_filter.mpr ⟨List.mem_append_right _ (List.mem_of_getElem? (i := 949) (by decide +kernel)), by decide +kernel⟩
theorem kw_950 : (Jvm.Cond.methodLink "TakinghallLaw" (164 : Nat) ({ cls := "TakinghallModel", name := "object", desc := "(I)I" } : Jvm.MethodName)) ∈ wG := List.mem_filter.mpr ⟨List.mem_append_right _ (List.mem_of_getElem? (i := 950) (by decide +kernel)), by decide +kernel⟩
theorem kw_951 : (Jvm.Cond.instanceMethod ({ cls := "TakinghallModel", name := "object", desc := "(I)I" } : Jvm.MethodName)) ∈ wG := List.mem_filter.mpr ⟨List.mem_append_right _ (List.mem_of_getElem? (i := 951) (by decide +kernel)), by decide +kernel⟩
theorem kw_952 : (Jvm.Cond.selects "TakinghallModel" ({ cls := "TakinghallModel", name := "object", desc := "(I)I" } : Jvm.MethodName) ({ cls := "TakinghallModel", name := "object", desc := "(I)I" } : Jvm.MethodName)) ∈ wG := List.mem_filter.mpr ⟨List.mem_append_right _ (List.mem_of_getElem? (i := 952) (by decide +kernel)), by decide +kernel⟩
theorem kw_953 : (Jvm.Cond.code ({ cls := "TakinghallModel", name := "object", desc := "(I)I" } : Jvm.MethodName) prog_7_method_26_code (3 : Nat) (Option.some Jvm.ClassFile.FieldType.int)) ∈ wG := List.mem_filter.mpr ⟨List.mem_append_right _ (List.mem_of_getElem? (i := 953) (by decide +kernel)), by decide +kernel⟩
theorem kw_954 : (Jvm.Cond.methodLink "TakinghallModel" (149 : Nat) ({ cls := "TakinghallModel", name := "openOf", desc := "(I)I" } : Jvm.MethodName)) ∈ wG := List.mem_filter.mpr ⟨List.mem_append_right _ (List.mem_of_getElem? (i := 954) (by decide +kernel)), by decide +kernel⟩
theorem kw_956 : (Jvm.Cond.instanceMethod ({ cls := "TakinghallModel", name := "openOf", desc := "(I)I" } : Jvm.MethodName)) ∈ wG := List.mem_filter.mpr ⟨List.mem_append_right _ (List.mem_of_getElem? (i := 956) (by decide +kernel)), by decide +kernel⟩
theorem kw_957 : (Jvm.Cond.code ({ cls := "TakinghallModel", name := "openOf", desc := "(I)I" } : Jvm.MethodName) prog_7_method_25_code (4 : Nat) (Option.some Jvm.ClassFile.FieldType.int)) ∈ wG := List.mem_filter.mpr ⟨List.mem_append_right _ (List.mem_of_getElem? (i := 957) (by decide +kernel)), by decide +kernel⟩
theorem kw_958 : (Jvm.Cond.methodLink "TakinghallLaw" (168 : Nat) ({ cls := "TakinghallModel", name := "hear", desc := "(IZ)I" } : Jvm.MethodName)) ∈ wG := List.mem_filter.mpr ⟨List.mem_append_right _ (List.mem_of_getElem? (i := 958) (by decide +kernel)), by decide +kernel⟩
theorem kw_959 : (Jvm.Cond.instanceMethod ({ cls := "TakinghallModel", name := "hear", desc := "(IZ)I" } : Jvm.MethodName)) ∈ wG := List.mem_filter.mpr ⟨List.mem_append_right _ (List.mem_of_getElem? (i := 959) (by decide +kernel)), by decide +kernel⟩
theorem kw_960 : (Jvm.Cond.selects "TakinghallModel" ({ cls := "TakinghallModel", name := "hear", desc := "(IZ)I" } : Jvm.MethodName) ({ cls := "TakinghallModel", name := "hear", desc := "(IZ)I" } : Jvm.MethodName)) ∈ wG := List.mem_filter.mpr ⟨List.mem_append_right _ (List.mem_of_getElem? (i := 960) (by decide +kernel)), by decide +kernel⟩
theorem kw_961 : (Jvm.Cond.code ({ cls := "TakinghallModel", name := "hear", desc := "(IZ)I" } : Jvm.MethodName) prog_7_method_28_code (4 : Nat) (Option.some Jvm.ClassFile.FieldType.int)) ∈ wG := List.mem_filter.mpr ⟨List.mem_append_right _ (List.mem_of_getElem? (i := 961) (by decide +kernel)), by decide +kernel⟩
theorem kw_962 : (Jvm.Cond.methodLink "TakinghallModel" (153 : Nat) ({ cls := "TakinghallModel", name := "letGo", desc := "(I)V" } : Jvm.MethodName)) ∈ wG := List.mem_filter.mpr ⟨List.mem_append_right _ (List.mem_of_getElem? (i := 962) (by decide +kernel)), by decide +kernel⟩
theorem kw_964 : (Jvm.Cond.instanceMethod ({ cls := "TakinghallModel", name := "letGo", desc := "(I)V" } : Jvm.MethodName)) ∈ wG := List.mem_filter.mpr ⟨List.mem_append_right _ (List.mem_of_getElem? (i := 964) (by decide +kernel)), by decide +kernel⟩
theorem kw_965 : (Jvm.Cond.code ({ cls := "TakinghallModel", name := "letGo", desc := "(I)V" } : Jvm.MethodName) prog_7_method_27_code (3 : Nat) (Option.none : Option Jvm.ClassFile.FieldType)) ∈ wG := List.mem_filter.mpr ⟨List.mem_append_right _ (List.mem_of_getElem? (i := 965) (by decide +kernel)), by decide +kernel⟩
theorem kw_966 : (Jvm.Cond.methodLink "TakinghallLaw" (171 : Nat) ({ cls := "TakinghallModel", name := "confirm", desc := "(I)I" } : Jvm.MethodName)) ∈ wG := List.mem_filter.mpr ⟨List.mem_append_right _ (List.mem_of_getElem? (i := 966) (by decide +kernel)), by decide +kernel⟩
theorem kw_967 : (Jvm.Cond.instanceMethod ({ cls := "TakinghallModel", name := "confirm", desc := "(I)I" } : Jvm.MethodName)) ∈ wG := List.mem_filter.mpr ⟨List.mem_append_right _ (List.mem_of_getElem? (i := 967) (by decide +kernel)), by decide +kernel⟩
theorem kw_968 : (Jvm.Cond.selects "TakinghallModel" ({ cls := "TakinghallModel", name := "confirm", desc := "(I)I" } : Jvm.MethodName) ({ cls := "TakinghallModel", name := "confirm", desc := "(I)I" } : Jvm.MethodName)) ∈ wG := List.mem_filter.mpr ⟨List.mem_append_right _ (List.mem_of_getElem? (i := 968) (by decide +kernel)), by decide +kernel⟩
theorem kw_969 : (Jvm.Cond.code ({ cls := "TakinghallModel", name := "confirm", desc := "(I)I" } : Jvm.MethodName) prog_7_method_30_code (2 : Nat) (Option.some Jvm.ClassFile.FieldType.int)) ∈ wG := List.mem_filter.mpr ⟨List.mem_append_right _ (List.mem_of_getElem? (i := 969) (by decide +kernel)), by decide +kernel⟩
theorem kw_970 : (Jvm.Cond.methodLink "TakinghallModel" (157 : Nat) ({ cls := "TakinghallModel", name := "stopper", desc := "(I)I" } : Jvm.MethodName)) ∈ wG := List.mem_filter.mpr ⟨List.mem_append_right _ (List.mem_of_getElem? (i := 970) (by decide +kernel)), by decide +kernel⟩
theorem kw_972 : (Jvm.Cond.instanceMethod ({ cls := "TakinghallModel", name := "stopper", desc := "(I)I" } : Jvm.MethodName)) ∈ wG := List.mem_filter.mpr ⟨List.mem_append_right _ (List.mem_of_getElem? (i := 972) (by decide +kernel)), by decide +kernel⟩
theorem kw_973 : (Jvm.Cond.code ({ cls := "TakinghallModel", name := "stopper", desc := "(I)I" } : Jvm.MethodName) prog_7_method_29_code (4 : Nat) (Option.some Jvm.ClassFile.FieldType.int)) ∈ wG := List.mem_filter.mpr ⟨List.mem_append_right _ (List.mem_of_getElem? (i := 973) (by decide +kernel)), by decide +kernel⟩
theorem kw_974 : (Jvm.Cond.methodLink "TakinghallLaw" (174 : Nat) ({ cls := "TakinghallModel", name := "whoStops", desc := "(I)I" } : Jvm.MethodName)) ∈ wG := List.mem_filter.mpr ⟨List.mem_append_right _ (List.mem_of_getElem? (i := 974) (by decide +kernel)), by decide +kernel⟩
theorem kw_975 : (Jvm.Cond.instanceMethod ({ cls := "TakinghallModel", name := "whoStops", desc := "(I)I" } : Jvm.MethodName)) ∈ wG := List.mem_filter.mpr ⟨List.mem_append_right _ (List.mem_of_getElem? (i := 975) (by decide +kernel)), by decide +kernel⟩
theorem kw_976 : (Jvm.Cond.selects "TakinghallModel" ({ cls := "TakinghallModel", name := "whoStops", desc := "(I)I" } : Jvm.MethodName) ({ cls := "TakinghallModel", name := "whoStops", desc := "(I)I" } : Jvm.MethodName)) ∈ wG := List.mem_filter.mpr ⟨List.mem_append_right _ (List.mem_of_getElem? (i := 976) (by decide +kernel)), by decide +kernel⟩
theorem kw_977 : (Jvm.Cond.code ({ cls := "TakinghallModel", name := "whoStops", desc := "(I)I" } : Jvm.MethodName) prog_7_method_31_code (2 : Nat) (Option.some Jvm.ClassFile.FieldType.int)) ∈ wG := List.mem_filter.mpr ⟨List.mem_append_right _ (List.mem_of_getElem? (i := 977) (by decide +kernel)), by decide +kernel⟩
theorem kw_978 : (Jvm.Cond.methodLink "TakinghallLaw" (177 : Nat) ({ cls := "TakinghallModel", name := "drop", desc := "(I)I" } : Jvm.MethodName)) ∈ wG := List.mem_filter.mpr ⟨List.mem_append_right _ (List.mem_of_getElem? (i := 978) (by decide +kernel)), by decide +kernel⟩
theorem kw_979 : (Jvm.Cond.instanceMethod ({ cls := "TakinghallModel", name := "drop", desc := "(I)I" } : Jvm.MethodName)) ∈ wG := List.mem_filter.mpr ⟨List.mem_append_right _ (List.mem_of_getElem? (i := 979) (by decide +kernel)), by decide +kernel⟩
theorem kw_980 : (Jvm.Cond.selects "TakinghallModel" ({ cls := "TakinghallModel", name := "drop", desc := "(I)I" } : Jvm.MethodName) ({ cls := "TakinghallModel", name := "drop", desc := "(I)I" } : Jvm.MethodName)) ∈ wG := List.mem_filter.mpr ⟨List.mem_append_right _ (List.mem_of_getElem? (i := 980) (by decide +kernel)), by decide +kernel⟩
theorem kw_981 : (Jvm.Cond.code ({ cls := "TakinghallModel", name := "drop", desc := "(I)I" } : Jvm.MethodName) prog_7_method_33_code (4 : Nat) (Option.some Jvm.ClassFile.FieldType.int)) ∈ wG := List.mem_filter.mpr ⟨List.mem_append_right _ (List.mem_of_getElem? (i := 981) (by decide +kernel)), by decide +kernel⟩
theorem kw_982 : (Jvm.Cond.methodLink "TakinghallModel" (160 : Nat) ({ cls := "TakinghallModel", name := "ownerBehind", desc := "(II)I" } : Jvm.MethodName)) ∈ wG := List.mem_filter.mpr ⟨List.mem_append_right _ (List.mem_of_getElem? (i := 982) (by decide +kernel)), by decide +kernel⟩
theorem kw_984 : (Jvm.Cond.instanceMethod ({ cls := "TakinghallModel", name := "ownerBehind", desc := "(II)I" } : Jvm.MethodName)) ∈ wG := List.mem_filter.mpr ⟨List.mem_append_right _ (List.mem_of_getElem? (i := 984) (by decide +kernel)), by decide +kernel⟩
theorem kw_985 : (Jvm.Cond.code ({ cls := "TakinghallModel", name := "ownerBehind", desc := "(II)I" } : Jvm.MethodName) prog_7_method_32_code (7 : Nat) (Option.some Jvm.ClassFile.FieldType.int)) ∈ wG := List.mem_filter.mpr ⟨List.mem_append_right _ (List.mem_of_getElem? (i := 985) (by decide +kernel)), by decide +kernel⟩
theorem kw_986 : (Jvm.Cond.methodLink "TakinghallLaw" (180 : Nat) ({ cls := "TakinghallModel", name := "schemeOf", desc := "(II)I" } : Jvm.MethodName)) ∈ wG := List.mem_filter.mpr ⟨List.mem_append_right _ (List.mem_of_getElem? (i := 986) (by decide +kernel)), by decide +kernel⟩
theorem kw_987 : (Jvm.Cond.instanceMethod ({ cls := "TakinghallModel", name := "schemeOf", desc := "(II)I" } : Jvm.MethodName)) ∈ wG := List.mem_filter.mpr ⟨List.mem_append_right _ (List.mem_of_getElem? (i := 987) (by decide +kernel)), by decide +kernel⟩
theorem kw_988 : (Jvm.Cond.selects "TakinghallModel" ({ cls := "TakinghallModel", name := "schemeOf", desc := "(II)I" } : Jvm.MethodName) ({ cls := "TakinghallModel", name := "schemeOf", desc := "(II)I" } : Jvm.MethodName)) ∈ wG := List.mem_filter.mpr ⟨List.mem_append_right _ (List.mem_of_getElem? (i := 988) (by decide +kernel)), by decide +kernel⟩
theorem kw_989 : (Jvm.Cond.code ({ cls := "TakinghallModel", name := "schemeOf", desc := "(II)I" } : Jvm.MethodName) prog_7_method_34_code (3 : Nat) (Option.some Jvm.ClassFile.FieldType.int)) ∈ wG := List.mem_filter.mpr ⟨List.mem_append_right _ (List.mem_of_getElem? (i := 989) (by decide +kernel)), by decide +kernel⟩
theorem kw_990 : (Jvm.Cond.methodLink "TakinghallLaw" (183 : Nat) ({ cls := "TakinghallModel", name := "enter", desc := "(I)I" } : Jvm.MethodName)) ∈ wG := List.mem_filter.mpr ⟨List.mem_append_right _ (List.mem_of_getElem? (i := 990) (by decide +kernel)), by decide +kernel⟩
theorem kw_991 : (Jvm.Cond.instanceMethod ({ cls := "TakinghallModel", name := "enter", desc := "(I)I" } : Jvm.MethodName)) ∈ wG := List.mem_filter.mpr ⟨List.mem_append_right _ (List.mem_of_getElem? (i := 991) (by decide +kernel)), by decide +kernel⟩
theorem kw_992 : (Jvm.Cond.selects "TakinghallModel" ({ cls := "TakinghallModel", name := "enter", desc := "(I)I" } : Jvm.MethodName) ({ cls := "TakinghallModel", name := "enter", desc := "(I)I" } : Jvm.MethodName)) ∈ wG := List.mem_filter.mpr ⟨List.mem_append_right _ (List.mem_of_getElem? (i := 992) (by decide +kernel)), by decide +kernel⟩
theorem kw_993 : (Jvm.Cond.code ({ cls := "TakinghallModel", name := "enter", desc := "(I)I" } : Jvm.MethodName) prog_7_method_40_code (4 : Nat) (Option.some Jvm.ClassFile.FieldType.int)) ∈ wG := List.mem_filter.mpr ⟨List.mem_append_right _ (List.mem_of_getElem? (i := 993) (by decide +kernel)), by decide +kernel⟩
theorem kw_994 : (Jvm.Cond.methodLink "TakinghallModel" (185 : Nat) ({ cls := "TakinghallModel", name := "take", desc := "(I)I" } : Jvm.MethodName)) ∈ wG := List.mem_filter.mpr ⟨List.mem_append_right _ (List.mem_of_getElem? (i := 994) (by decide +kernel)), by decide +kernel⟩
theorem kw_996 : (Jvm.Cond.instanceMethod ({ cls := "TakinghallModel", name := "take", desc := "(I)I" } : Jvm.MethodName)) ∈ wG := List.mem_filter.mpr ⟨List.mem_append_right _ (List.mem_of_getElem? (i := 996) (by decide +kernel)), by decide +kernel⟩
theorem kw_997 : (Jvm.Cond.code ({ cls := "TakinghallModel", name := "take", desc := "(I)I" } : Jvm.MethodName) prog_7_method_39_code (5 : Nat) (Option.some Jvm.ClassFile.FieldType.int)) ∈ wG := List.mem_filter.mpr ⟨List.mem_append_right _ (List.mem_of_getElem? (i := 997) (by decide +kernel)), by decide +kernel⟩
theorem kw_998 : (Jvm.Cond.methodLink "TakinghallModel" (175 : Nat) ({ cls := "TakinghallModel", name := "landOf", desc := "(II)I" } : Jvm.MethodName)) ∈ wG := List.mem_filter.mpr ⟨List.mem_append_right _ (List.mem_of_getElem? (i := 998) (by decide +kernel)), by decide +kernel⟩
theorem kw_1000 : (Jvm.Cond.instanceMethod ({ cls := "TakinghallModel", name := "landOf", desc := "(II)I" } : Jvm.MethodName)) ∈ wG := List.mem_filter.mpr ⟨List.mem_append_right _ (List.mem_of_getElem? (i := 1000) (by decide +kernel)), by decide +kernel⟩
theorem kw_1001 : (Jvm.Cond.code ({ cls := "TakinghallModel", name := "landOf", desc := "(II)I" } : Jvm.MethodName) prog_7_method_35_code (7 : Nat) (Option.some Jvm.ClassFile.FieldType.int)) ∈ wG := List.mem_filter.mpr ⟨List.mem_append_right _ (List.mem_of_getElem? (i := 1001) (by decide +kernel)), by decide +kernel⟩
theorem kw_1002 : (Jvm.Cond.methodLink "TakinghallModel" (163 : Nat) ({ cls := "TakinghallModel", name := "leftAhead", desc := "(II)J" } : Jvm.MethodName)) ∈ wG := List.mem_filter.mpr ⟨List.mem_append_right _ (List.mem_of_getElem? (i := 1002) (by decide +kernel)), by decide +kernel⟩
theorem kw_1004 : (Jvm.Cond.instanceMethod ({ cls := "TakinghallModel", name := "leftAhead", desc := "(II)J" } : Jvm.MethodName)) ∈ wG := List.mem_filter.mpr ⟨List.mem_append_right _ (List.mem_of_getElem? (i := 1004) (by decide +kernel)), by decide +kernel⟩
theorem kw_1005 : (Jvm.Cond.code ({ cls := "TakinghallModel", name := "leftAhead", desc := "(II)J" } : Jvm.MethodName) prog_7_method_36_code (6 : Nat) (Option.some Jvm.ClassFile.FieldType.long)) ∈ wG := List.mem_filter.mpr ⟨List.mem_append_right _ (List.mem_of_getElem? (i := 1005) (by decide +kernel)), by decide +kernel⟩
theorem kw_1006 : (Jvm.Cond.methodLink "TakinghallModel" (178 : Nat) ({ cls := "TakinghallModel", name := "sumOf", desc := "(I)J" } : Jvm.MethodName)) ∈ wG := List.mem_filter.mpr ⟨List.mem_append_right _ (List.mem_of_getElem? (i := 1006) (by decide +kernel)), by decide +kernel⟩
theorem kw_1008 : (Jvm.Cond.instanceMethod ({ cls := "TakinghallModel", name := "sumOf", desc := "(I)J" } : Jvm.MethodName)) ∈ wG := List.mem_filter.mpr ⟨List.mem_append_right _ (List.mem_of_getElem? (i := 1008) (by decide +kernel)), by decide +kernel⟩
theorem kw_1009 : (Jvm.Cond.code ({ cls := "TakinghallModel", name := "sumOf", desc := "(I)J" } : Jvm.MethodName) prog_7_method_38_code (6 : Nat) (Option.some Jvm.ClassFile.FieldType.long)) ∈ wG := List.mem_filter.mpr ⟨List.mem_append_right _ (List.mem_of_getElem? (i := 1009) (by decide +kernel)), by decide +kernel⟩
theorem kw_1010 : (Jvm.Cond.methodLink "TakinghallModel" (169 : Nat) ({ cls := "TakinghallModel", name := "byShare", desc := "(I)J" } : Jvm.MethodName)) ∈ wG := List.mem_filter.mpr ⟨List.mem_append_right _ (List.mem_of_getElem? (i := 1010) (by decide +kernel)), by decide +kernel⟩
theorem kw_1012 : (Jvm.Cond.instanceMethod ({ cls := "TakinghallModel", name := "byShare", desc := "(I)J" } : Jvm.MethodName)) ∈ wG := List.mem_filter.mpr ⟨List.mem_append_right _ (List.mem_of_getElem? (i := 1012) (by decide +kernel)), by decide +kernel⟩
theorem kw_1013 : (Jvm.Cond.code ({ cls := "TakinghallModel", name := "byShare", desc := "(I)J" } : Jvm.MethodName) prog_7_method_37_code (2 : Nat) (Option.some Jvm.ClassFile.FieldType.long)) ∈ wG := List.mem_filter.mpr ⟨List.mem_append_right _ (List.mem_of_getElem? (i := 1013) (by decide +kernel)), by decide +kernel⟩
theorem kw_1014 : (Jvm.Cond.constantLong "TakinghallModel" (167 : Nat) (100 : Int64)) ∈ wG := List.mem_filter.mpr ⟨List.mem_append_right _ (List.mem_of_getElem? (i := 1014) (by decide +kernel)), by decide +kernel⟩
theorem kw_1015 : (Jvm.Cond.constantLong "TakinghallModel" (173 : Nat) (10 : Int64)) ∈ wG := List.mem_filter.mpr ⟨List.mem_append_right _ (List.mem_of_getElem? (i := 1015) (by decide +kernel)), by decide +kernel⟩
theorem kw_1016 : (Jvm.Cond.methodLink "TakinghallLaw" (186 : Nat) ({ cls := "TakinghallModel", name := "blight", desc := "(I)I" } : Jvm.MethodName)) ∈ wG := List.mem_filter.mpr ⟨List.mem_append_right _ (List.mem_of_getElem? (i := 1016) (by decide +kernel)), by decide +kernel⟩
theorem kw_1017 : (Jvm.Cond.instanceMethod ({ cls := "TakinghallModel", name := "blight", desc := "(I)I" } : Jvm.MethodName)) ∈ wG := List.mem_filter.mpr ⟨List.mem_append_right _ (List.mem_of_getElem? (i := 1017) (by decide +kernel)), by decide +kernel⟩
theorem kw_1018 : (Jvm.Cond.selects "TakinghallModel" ({ cls := "TakinghallModel", name := "blight", desc := "(I)I" } : Jvm.MethodName) ({ cls := "TakinghallModel", name := "blight", desc := "(I)I" } : Jvm.MethodName)) ∈ wG := List.mem_filter.mpr ⟨List.mem_append_right _ (List.mem_of_getElem? (i := 1018) (by decide +kernel)), by decide +kernel⟩
theorem kw_1019 : (Jvm.Cond.code ({ cls := "TakinghallModel", name := "blight", desc := "(I)I" } : Jvm.MethodName) prog_7_method_41_code (4 : Nat) (Option.some Jvm.ClassFile.FieldType.int)) ∈ wG := List.mem_filter.mpr ⟨List.mem_append_right _ (List.mem_of_getElem? (i := 1019) (by decide +kernel)), by decide +kernel⟩
theorem kw_1020 : (Jvm.Cond.methodLink "TakinghallLaw" (189 : Nat) ({ cls := "TakinghallModel", name := "works", desc := "(I)I" } : Jvm.MethodName)) ∈ wG := List.mem_filter.mpr ⟨List.mem_append_right _ (List.mem_of_getElem? (i := 1020) (by decide +kernel)), by decide +kernel⟩
theorem kw_1021 : (Jvm.Cond.instanceMethod ({ cls := "TakinghallModel", name := "works", desc := "(I)I" } : Jvm.MethodName)) ∈ wG := List.mem_filter.mpr ⟨List.mem_append_right _ (List.mem_of_getElem? (i := 1021) (by decide +kernel)), by decide +kernel⟩
theorem kw_1022 : (Jvm.Cond.selects "TakinghallModel" ({ cls := "TakinghallModel", name := "works", desc := "(I)I" } : Jvm.MethodName) ({ cls := "TakinghallModel", name := "works", desc := "(I)I" } : Jvm.MethodName)) ∈ wG := List.mem_filter.mpr ⟨List.mem_append_right _ (List.mem_of_getElem? (i := 1022) (by decide +kernel)), by decide +kernel⟩
theorem kw_1023 : (Jvm.Cond.code ({ cls := "TakinghallModel", name := "works", desc := "(I)I" } : Jvm.MethodName) prog_7_method_42_code (4 : Nat) (Option.some Jvm.ClassFile.FieldType.int)) ∈ wG := List.mem_filter.mpr ⟨List.mem_append_right _ (List.mem_of_getElem? (i := 1023) (by decide +kernel)), by decide +kernel⟩
theorem kw_1024 : (Jvm.Cond.methodLink "TakinghallLaw" (192 : Nat) ({ cls := "TakinghallModel", name := "sumAnew", desc := "(I)J" } : Jvm.MethodName)) ∈ wG := List.mem_filter.mpr ⟨List.mem_append_right _ (List.mem_of_getElem? (i := 1024) (by decide +kernel)), by decide +kernel⟩
theorem kw_1025 : (Jvm.Cond.instanceMethod ({ cls := "TakinghallModel", name := "sumAnew", desc := "(I)J" } : Jvm.MethodName)) ∈ wG := List.mem_filter.mpr ⟨List.mem_append_right _ (List.mem_of_getElem? (i := 1025) (by decide +kernel)), by decide +kernel⟩
theorem kw_1026 : (Jvm.Cond.selects "TakinghallModel" ({ cls := "TakinghallModel", name := "sumAnew", desc := "(I)J" } : Jvm.MethodName) ({ cls := "TakinghallModel", name := "sumAnew", desc := "(I)J" } : Jvm.MethodName)) ∈ wG := List.mem_filter.mpr ⟨List.mem_append_right _ (List.mem_of_getElem? (i := 1026) (by decide +kernel)), by decide +kernel⟩
theorem kw_1027 : (Jvm.Cond.code ({ cls := "TakinghallModel", name := "sumAnew", desc := "(I)J" } : Jvm.MethodName) prog_7_method_44_code (2 : Nat) (Option.some Jvm.ClassFile.FieldType.long)) ∈ wG := List.mem_filter.mpr ⟨List.mem_append_right _ (List.mem_of_getElem? (i := 1027) (by decide +kernel)), by decide +kernel⟩
theorem kw_1028 : (Jvm.Cond.methodLink "TakinghallModel" (188 : Nat) ({ cls := "TakinghallModel", name := "wasTaken", desc := "(I)Z" } : Jvm.MethodName)) ∈ wG := List.mem_filter.mpr ⟨List.mem_append_right _ (List.mem_of_getElem? (i := 1028) (by decide +kernel)), by decide +kernel⟩
theorem kw_1030 : (Jvm.Cond.instanceMethod ({ cls := "TakinghallModel", name := "wasTaken", desc := "(I)Z" } : Jvm.MethodName)) ∈ wG := List.mem_filter.mpr ⟨List.mem_append_right _ (List.mem_of_getElem? (i := 1030) (by decide +kernel)), by decide +kernel⟩
theorem kw_1031 : (Jvm.Cond.code ({ cls := "TakinghallModel", name := "wasTaken", desc := "(I)Z" } : Jvm.MethodName) prog_7_method_43_code (2 : Nat) (Option.some Jvm.ClassFile.FieldType.boolean)) ∈ wG := List.mem_filter.mpr ⟨List.mem_append_right _ (List.mem_of_getElem? (i := 1031) (by decide +kernel)), by decide +kernel⟩
theorem kw_1032 : (Jvm.Cond.methodLink "TakinghallLaw" (195 : Nat) ({ cls := "TakinghallModel", name := "owed", desc := "(I)J" } : Jvm.MethodName)) ∈ wG := List.mem_filter.mpr ⟨List.mem_append_right _ (List.mem_of_getElem? (i := 1032) (by decide +kernel)), by decide +kernel⟩
theorem kw_1033 : (Jvm.Cond.instanceMethod ({ cls := "TakinghallModel", name := "owed", desc := "(I)J" } : Jvm.MethodName)) ∈ wG := List.mem_filter.mpr ⟨List.mem_append_right _ (List.mem_of_getElem? (i := 1033) (by decide +kernel)), by decide +kernel⟩
theorem kw_1034 : (Jvm.Cond.selects "TakinghallModel" ({ cls := "TakinghallModel", name := "owed", desc := "(I)J" } : Jvm.MethodName) ({ cls := "TakinghallModel", name := "owed", desc := "(I)J" } : Jvm.MethodName)) ∈ wG := List.mem_filter.mpr ⟨List.mem_append_right _ (List.mem_of_getElem? (i := 1034) (by decide +kernel)), by decide +kernel⟩
theorem kw_1035 : (Jvm.Cond.code ({ cls := "TakinghallModel", name := "owed", desc := "(I)J" } : Jvm.MethodName) prog_7_method_47_code (2 : Nat) (Option.some Jvm.ClassFile.FieldType.long)) ∈ wG := List.mem_filter.mpr ⟨List.mem_append_right _ (List.mem_of_getElem? (i := 1035) (by decide +kernel)), by decide +kernel⟩
theorem kw_1036 : (Jvm.Cond.methodLink "TakinghallModel" (199 : Nat) ({ cls := "TakinghallModel", name := "owedTo", desc := "(I)J" } : Jvm.MethodName)) ∈ wG := List.mem_filter.mpr ⟨List.mem_append_right _ (List.mem_of_getElem? (i := 1036) (by decide +kernel)), by decide +kernel⟩
theorem kw_1038 : (Jvm.Cond.instanceMethod ({ cls := "TakinghallModel", name := "owedTo", desc := "(I)J" } : Jvm.MethodName)) ∈ wG := List.mem_filter.mpr ⟨List.mem_append_right _ (List.mem_of_getElem? (i := 1038) (by decide +kernel)), by decide +kernel⟩
theorem kw_1039 : (Jvm.Cond.code ({ cls := "TakinghallModel", name := "owedTo", desc := "(I)J" } : Jvm.MethodName) prog_7_method_46_code (8 : Nat) (Option.some Jvm.ClassFile.FieldType.long)) ∈ wG := List.mem_filter.mpr ⟨List.mem_append_right _ (List.mem_of_getElem? (i := 1039) (by decide +kernel)), by decide +kernel⟩
theorem kw_1040 : (Jvm.Cond.methodLink "TakinghallModel" (195 : Nat) ({ cls := "TakinghallModel", name := "gain", desc := "(JI)J" } : Jvm.MethodName)) ∈ wG := List.mem_filter.mpr ⟨List.mem_append_right _ (List.mem_of_getElem? (i := 1040) (by decide +kernel)), by decide +kernel⟩
theorem kw_1042 : (Jvm.Cond.instanceMethod ({ cls := "TakinghallModel", name := "gain", desc := "(JI)J" } : Jvm.MethodName)) ∈ wG := List.mem_filter.mpr ⟨List.mem_append_right _ (List.mem_of_getElem? (i := 1042) (by decide +kernel)), by decide +kernel⟩
theorem kw_1043 : (Jvm.Cond.code ({ cls := "TakinghallModel", name := "gain", desc := "(JI)J" } : Jvm.MethodName) prog_7_method_45_code (4 : Nat) (Option.some Jvm.ClassFile.FieldType.long)) ∈ wG := List.mem_filter.mpr ⟨List.mem_append_right _ (List.mem_of_getElem? (i := 1043) (by decide +kernel)), by decide +kernel⟩
theorem kw_1044 : (Jvm.Cond.constantLong "TakinghallModel" (191 : Nat) (3 : Int64)) ∈ wG := List.mem_filter.mpr ⟨List.mem_append_right _ (List.mem_of_getElem? (i := 1044) (by decide +kernel)), by decide +kernel⟩
theorem kw_1045 : (Jvm.Cond.constantLong "TakinghallModel" (193 : Nat) (36500 : Int64)) ∈ wG := List.mem_filter.mpr ⟨List.mem_append_right _ (List.mem_of_getElem? (i := 1045) (by decide +kernel)), by decide +kernel⟩
theorem kw_1046 : (Jvm.Cond.methodLink "TakinghallLaw" (198 : Nat) ({ cls := "TakinghallModel", name := "advance", desc := "(I)J" } : Jvm.MethodName)) ∈ wG := List.mem_filter.mpr ⟨List.mem_append_right _ (List.mem_of_getElem? (i := 1046) (by decide +kernel)), by decide +kernel⟩
theorem kw_1047 : (Jvm.Cond.instanceMethod ({ cls := "TakinghallModel", name := "advance", desc := "(I)J" } : Jvm.MethodName)) ∈ wG := List.mem_filter.mpr ⟨List.mem_append_right _ (List.mem_of_getElem? (i := 1047) (by decide +kernel)), by decide +kernel⟩
theorem kw_1048 : (Jvm.Cond.selects "TakinghallModel" ({ cls := "TakinghallModel", name := "advance", desc := "(I)J" } : Jvm.MethodName) ({ cls := "TakinghallModel", name := "advance", desc := "(I)J" } : Jvm.MethodName)) ∈ wG := List.mem_filter.mpr ⟨List.mem_append_right _ (List.mem_of_getElem? (i := 1048) (by decide +kernel)), by decide +kernel⟩
theorem kw_1049 : (Jvm.Cond.code ({ cls := "TakinghallModel", name := "advance", desc := "(I)J" } : Jvm.MethodName) prog_7_method_48_code (2 : Nat) (Option.some Jvm.ClassFile.FieldType.long)) ∈ wG := List.mem_filter.mpr ⟨List.mem_append_right _ (List.mem_of_getElem? (i := 1049) (by decide +kernel)), by decide +kernel⟩
theorem kw_1050 : (Jvm.Cond.constantLong "TakinghallModel" (202 : Nat) (90 : Int64)) ∈ wG := List.mem_filter.mpr ⟨List.mem_append_right _ (List.mem_of_getElem? (i := 1050) (by decide +kernel)), by decide +kernel⟩
theorem kw_1051 : (Jvm.Cond.methodLink "TakinghallLaw" (201 : Nat) ({ cls := "TakinghallModel", name := "settle", desc := "(I)J" } : Jvm.MethodName)) ∈ wG := List.mem_filter.mpr ⟨List.mem_append_right _ (List.mem_of_getElem? (i := 1051) (by decide +kernel)), by decide +kernel⟩
theorem kw_1052 : (Jvm.Cond.instanceMethod ({ cls := "TakinghallModel", name := "settle", desc := "(I)J" } : Jvm.MethodName)) ∈ wG := List.mem_filter.mpr ⟨List.mem_append_right _ (List.mem_of_getElem? (i := 1052) (by decide +kernel)), by decide +kernel⟩
theorem kw_1053 : (Jvm.Cond.selects "TakinghallModel" ({ cls := "TakinghallModel", name := "settle", desc := "(I)J" } : Jvm.MethodName) ({ cls := "TakinghallModel", name := "settle", desc := "(I)J" } : Jvm.MethodName)) ∈ wG := List.mem_filter.mpr ⟨List.mem_append_right _ (List.mem_of_getElem? (i := 1053) (by decide +kernel)), by decide +kernel⟩
theorem kw_1054 : (Jvm.Cond.code ({ cls := "TakinghallModel", name := "settle", desc := "(I)J" } : Jvm.MethodName) prog_7_method_49_code (4 : Nat) (Option.some Jvm.ClassFile.FieldType.long)) ∈ wG := List.mem_filter.mpr ⟨List.mem_append_right _ (List.mem_of_getElem? (i := 1054) (by decide +kernel)), by decide +kernel⟩
theorem kw_1055 : (Jvm.Cond.methodLink "TakinghallLaw" (204 : Nat) ({ cls := "TakinghallModel", name := "refuse", desc := "(I)I" } : Jvm.MethodName)) ∈ wG := List.mem_filter.mpr ⟨List.mem_append_right _ (List.mem_of_getElem? (i := 1055) (by decide +kernel)), by decide +kernel⟩
theorem kw_1056 : (Jvm.Cond.instanceMethod ({ cls := "TakinghallModel", name := "refuse", desc := "(I)I" } : Jvm.MethodName)) ∈ wG := List.mem_filter.mpr ⟨List.mem_append_right _ (List.mem_of_getElem? (i := 1056) (by decide +kernel)), by decide +kernel⟩
theorem kw_1057 : (Jvm.Cond.selects "TakinghallModel" ({ cls := "TakinghallModel", name := "refuse", desc := "(I)I" } : Jvm.MethodName) ({ cls := "TakinghallModel", name := "refuse", desc := "(I)I" } : Jvm.MethodName)) ∈ wG := List.mem_filter.mpr ⟨List.mem_append_right _ (List.mem_of_getElem? (i := 1057) (by decide +kernel)), by decide +kernel⟩
theorem kw_1058 : (Jvm.Cond.code ({ cls := "TakinghallModel", name := "refuse", desc := "(I)I" } : Jvm.MethodName) prog_7_method_50_code (2 : Nat) (Option.some Jvm.ClassFile.FieldType.int)) ∈ wG := List.mem_filter.mpr ⟨List.mem_append_right _ (List.mem_of_getElem? (i := 1058) (by decide +kernel)), by decide +kernel⟩
theorem kw_1059 : (Jvm.Cond.methodLink "TakinghallLaw" (207 : Nat) ({ cls := "TakinghallModel", name := "accept", desc := "(I)I" } : Jvm.MethodName)) ∈ wG := List.mem_filter.mpr ⟨List.mem_append_right _ (List.mem_of_getElem? (i := 1059) (by decide +kernel)), by decide +kernel⟩
theorem kw_1060 : (Jvm.Cond.instanceMethod ({ cls := "TakinghallModel", name := "accept", desc := "(I)I" } : Jvm.MethodName)) ∈ wG := List.mem_filter.mpr ⟨List.mem_append_right _ (List.mem_of_getElem? (i := 1060) (by decide +kernel)), by decide +kernel⟩
theorem kw_1061 : (Jvm.Cond.selects "TakinghallModel" ({ cls := "TakinghallModel", name := "accept", desc := "(I)I" } : Jvm.MethodName) ({ cls := "TakinghallModel", name := "accept", desc := "(I)I" } : Jvm.MethodName)) ∈ wG := List.mem_filter.mpr ⟨List.mem_append_right _ (List.mem_of_getElem? (i := 1061) (by decide +kernel)), by decide +kernel⟩
theorem kw_1062 : (Jvm.Cond.code ({ cls := "TakinghallModel", name := "accept", desc := "(I)I" } : Jvm.MethodName) prog_7_method_51_code (3 : Nat) (Option.some Jvm.ClassFile.FieldType.int)) ∈ wG := List.mem_filter.mpr ⟨List.mem_append_right _ (List.mem_of_getElem? (i := 1062) (by decide +kernel)), by decide +kernel⟩
theorem kw_1063 : (Jvm.Cond.methodLink "TakinghallLaw" (210 : Nat) ({ cls := "TakinghallModel", name := "pass", desc := "(I)I" } : Jvm.MethodName)) ∈ wG := List.mem_filter.mpr ⟨List.mem_append_right _ (List.mem_of_getElem? (i := 1063) (by decide +kernel)), by decide +kernel⟩
theorem kw_1064 : (Jvm.Cond.instanceMethod ({ cls := "TakinghallModel", name := "pass", desc := "(I)I" } : Jvm.MethodName)) ∈ wG := List.mem_filter.mpr ⟨List.mem_append_right _ (List.mem_of_getElem? (i := 1064) (by decide +kernel)), by decide +kernel⟩
theorem kw_1065 : (Jvm.Cond.selects "TakinghallModel" ({ cls := "TakinghallModel", name := "pass", desc := "(I)I" } : Jvm.MethodName) ({ cls := "TakinghallModel", name := "pass", desc := "(I)I" } : Jvm.MethodName)) ∈ wG := List.mem_filter.mpr ⟨List.mem_append_right _ (List.mem_of_getElem? (i := 1065) (by decide +kernel)), by decide +kernel⟩
theorem kw_1066 : (Jvm.Cond.code ({ cls := "TakinghallModel", name := "pass", desc := "(I)I" } : Jvm.MethodName) prog_7_method_52_code (4 : Nat) (Option.some Jvm.ClassFile.FieldType.int)) ∈ wG := List.mem_filter.mpr ⟨List.mem_append_right _ (List.mem_of_getElem? (i := 1066) (by decide +kernel)), by decide +kernel⟩
theorem kw_1067 : (Jvm.Cond.methodLink "TakinghallLaw" (214 : Nat) ({ cls := "TakinghallModel", name := "today", desc := "()I" } : Jvm.MethodName)) ∈ wG := List.mem_filter.mpr ⟨List.mem_append_right _ (List.mem_of_getElem? (i := 1067) (by decide +kernel)), by decide +kernel⟩
theorem kw_1068 : (Jvm.Cond.instanceMethod ({ cls := "TakinghallModel", name := "today", desc := "()I" } : Jvm.MethodName)) ∈ wG := List.mem_filter.mpr ⟨List.mem_append_right _ (List.mem_of_getElem? (i := 1068) (by decide +kernel)), by decide +kernel⟩
theorem kw_1069 : (Jvm.Cond.selects "TakinghallModel" ({ cls := "TakinghallModel", name := "today", desc := "()I" } : Jvm.MethodName) ({ cls := "TakinghallModel", name := "today", desc := "()I" } : Jvm.MethodName)) ∈ wG := List.mem_filter.mpr ⟨List.mem_append_right _ (List.mem_of_getElem? (i := 1069) (by decide +kernel)), by decide +kernel⟩
theorem kw_1070 : (Jvm.Cond.code ({ cls := "TakinghallModel", name := "today", desc := "()I" } : Jvm.MethodName) prog_7_method_53_code (1 : Nat) (Option.some Jvm.ClassFile.FieldType.int)) ∈ wG := List.mem_filter.mpr ⟨List.mem_append_right _ (List.mem_of_getElem? (i := 1070) (by decide +kernel)), by decide +kernel⟩
theorem kw_1071 : (Jvm.Cond.methodLink "TakinghallLaw" (217 : Nat) ({ cls := "TakinghallModel", name := "total", desc := "(I)J" } : Jvm.MethodName)) ∈ wG := List.mem_filter.mpr ⟨List.mem_append_right _ (List.mem_of_getElem? (i := 1071) (by decide +kernel)), by decide +kernel⟩
theorem kw_1072 : (Jvm.Cond.instanceMethod ({ cls := "TakinghallModel", name := "total", desc := "(I)J" } : Jvm.MethodName)) ∈ wG := List.mem_filter.mpr ⟨List.mem_append_right _ (List.mem_of_getElem? (i := 1072) (by decide +kernel)), by decide +kernel⟩
theorem kw_1073 : (Jvm.Cond.selects "TakinghallModel" ({ cls := "TakinghallModel", name := "total", desc := "(I)J" } : Jvm.MethodName) ({ cls := "TakinghallModel", name := "total", desc := "(I)J" } : Jvm.MethodName)) ∈ wG := List.mem_filter.mpr ⟨List.mem_append_right _ (List.mem_of_getElem? (i := 1073) (by decide +kernel)), by decide +kernel⟩
theorem kw_1074 : (Jvm.Cond.code ({ cls := "TakinghallModel", name := "total", desc := "(I)J" } : Jvm.MethodName) prog_7_method_54_code (5 : Nat) (Option.some Jvm.ClassFile.FieldType.long)) ∈ wG := List.mem_filter.mpr ⟨List.mem_append_right _ (List.mem_of_getElem? (i := 1074) (by decide +kernel)), by decide +kernel⟩
theorem kw_1075 : (Jvm.Cond.methodLink "TakinghallLaw" (220 : Nat) ({ cls := "TakinghallModel", name := "creditors", desc := "(I)I" } : Jvm.MethodName)) ∈ wG := List.mem_filter.mpr ⟨List.mem_append_right _ (List.mem_of_getElem? (i := 1075) (by decide +kernel)), by decide +kernel⟩
theorem kw_1076 : (Jvm.Cond.instanceMethod ({ cls := "TakinghallModel", name := "creditors", desc := "(I)I" } : Jvm.MethodName)) ∈ wG := List.mem_filter.mpr ⟨List.mem_append_right _ (List.mem_of_getElem? (i := 1076) (by decide +kernel)), by decide +kernel⟩
theorem kw_1077 : (Jvm.Cond.selects "TakinghallModel" ({ cls := "TakinghallModel", name := "creditors", desc := "(I)I" } : Jvm.MethodName) ({ cls := "TakinghallModel", name := "creditors", desc := "(I)I" } : Jvm.MethodName)) ∈ wG := List.mem_filter.mpr ⟨List.mem_append_right _ (List.mem_of_getElem? (i := 1077) (by decide +kernel)), by decide +kernel⟩
theorem kw_1078 : (Jvm.Cond.code ({ cls := "TakinghallModel", name := "creditors", desc := "(I)I" } : Jvm.MethodName) prog_7_method_55_code (4 : Nat) (Option.some Jvm.ClassFile.FieldType.int)) ∈ wG := List.mem_filter.mpr ⟨List.mem_append_right _ (List.mem_of_getElem? (i := 1078) (by decide +kernel)), by decide +kernel⟩
theorem kt_23 : (Jvm.Cond.arrayOver (Jvm.ClassFile.FieldType.object "Takinghall$Plot")) ∈ lw_tbl := List.mem_append_right _ (List.mem_of_getElem? (i := 23) (by decide +kernel))
theorem kt_25 : (Jvm.Cond.arrayOver (Jvm.ClassFile.FieldType.object "Takinghall$Price")) ∈ lw_tbl := List.mem_append_right _ (List.mem_of_getElem? (i := 25) (by decide +kernel))
theorem kt_27 : (Jvm.Cond.arrayOver (Jvm.ClassFile.FieldType.object "Takinghall$Interest")) ∈ lw_tbl := List.mem_append_right _ (List.mem_of_getElem? (i := 27) (by decide +kernel))
theorem kt_29 : (Jvm.Cond.arrayOver (Jvm.ClassFile.FieldType.object "Takinghall$Scheme")) ∈ lw_tbl := List.mem_append_right _ (List.mem_of_getElem? (i := 29) (by decide +kernel))
theorem kt_73 : (Jvm.Cond.superclass "Takinghall$Plot" "java/lang/Object") ∈ lw_tbl := List.mem_append_right _ (List.mem_of_getElem? (i := 73) (by decide +kernel))
theorem kt_91 : (Jvm.Cond.superclass "Takinghall$Price" "java/lang/Object") ∈ lw_tbl := List.mem_append_right _ (List.mem_of_getElem? (i := 91) (by decide +kernel))
theorem kt_128 : (Jvm.Cond.superclass "Takinghall" "java/lang/Object") ∈ lw_tbl := List.mem_append_right _ (List.mem_of_getElem? (i := 128) (by decide +kernel))
theorem kt_149 : (Jvm.Cond.castable "java/lang/IndexOutOfBoundsException" "java/lang/IndexOutOfBoundsException") ∈ lw_tbl := List.mem_append_right _ (List.mem_of_getElem? (i := 149) (by decide +kernel))
theorem kt_150 : (Jvm.Cond.declares ({ cls := "java/lang/RuntimeException", name := "<init>", desc := "()V" } : Jvm.MethodName)) ∈ lw_tbl := List.mem_append_right _ (List.mem_of_getElem? (i := 150) (by decide +kernel))
theorem kt_151 : (Jvm.Cond.declares ({ cls := "java/lang/RuntimeException", name := "<init>", desc := "(Ljava/lang/String;)V" } : Jvm.MethodName)) ∈ lw_tbl := List.mem_append_right _ (List.mem_of_getElem? (i := 151) (by decide +kernel))
theorem kt_152 : (Jvm.Cond.declares ({ cls := "java/lang/Exception", name := "<init>", desc := "()V" } : Jvm.MethodName)) ∈ lw_tbl := List.mem_append_right _ (List.mem_of_getElem? (i := 152) (by decide +kernel))
theorem kt_153 : (Jvm.Cond.declares ({ cls := "java/lang/Exception", name := "<init>", desc := "(Ljava/lang/String;)V" } : Jvm.MethodName)) ∈ lw_tbl := List.mem_append_right _ (List.mem_of_getElem? (i := 153) (by decide +kernel))
theorem kt_154 : (Jvm.Cond.declares ({ cls := "java/lang/Throwable", name := "<init>", desc := "()V" } : Jvm.MethodName)) ∈ lw_tbl := List.mem_append_right _ (List.mem_of_getElem? (i := 154) (by decide +kernel))
theorem kt_155 : (Jvm.Cond.declares ({ cls := "java/lang/Throwable", name := "<init>", desc := "(Ljava/lang/String;)V" } : Jvm.MethodName)) ∈ lw_tbl := List.mem_append_right _ (List.mem_of_getElem? (i := 155) (by decide +kernel))
theorem kt_169 : (Jvm.Cond.superclass "java/lang/Throwable" "java/lang/Object") ∈ lw_tbl := List.mem_append_right _ (List.mem_of_getElem? (i := 169) (by decide +kernel))
theorem kt_174 : (Jvm.Cond.laysStatic "java/lang/Throwable" "UNASSIGNED_STACK" "[Ljava/lang/StackTraceElement;") ∈ lw_tbl := List.mem_append_right _ (List.mem_of_getElem? (i := 174) (by decide +kernel))
theorem kt_176 : (Jvm.Cond.laysStatic "java/lang/Throwable" "SUPPRESSED_SENTINEL" "Ljava/util/List;") ∈ lw_tbl := List.mem_append_right _ (List.mem_of_getElem? (i := 176) (by decide +kernel))
theorem kt_179 : (Jvm.Cond.sameMethod "java/lang/Throwable" "java/lang/Throwable" "fillInStackTrace" "()Ljava/lang/Throwable;") ∈ lw_tbl := List.mem_append_right _ (List.mem_of_getElem? (i := 179) (by decide +kernel))
theorem kt_182 : (Jvm.Cond.codeSync ({ cls := "java/lang/Throwable", name := "fillInStackTrace", desc := "()Ljava/lang/Throwable;" } : Jvm.MethodName) prog_15_method_18_code (1 : Nat) (Option.some (Jvm.ClassFile.FieldType.object "java/lang/Throwable"))) ∈ lw_tbl := List.mem_append_right _ (List.mem_of_getElem? (i := 182) (by decide +kernel))
theorem kt_187 : (Jvm.Cond.native ({ cls := "java/lang/Throwable", name := "fillInStackTrace", desc := "(I)Ljava/lang/Throwable;" } : Jvm.MethodName)) ∈ lw_tbl := List.mem_append_right _ (List.mem_of_getElem? (i := 187) (by decide +kernel))
theorem kt_188 : (Jvm.Cond.stringRef "Takinghall" (45 : Nat) "no such PLOT") ∈ lw_tbl := List.mem_append_right _ (List.mem_of_getElem? (i := 188) (by decide +kernel))
theorem kt_213 : (Jvm.Cond.superclass "java/lang/IndexOutOfBoundsException" "java/lang/RuntimeException") ∈ lw_tbl := List.mem_append_right _ (List.mem_of_getElem? (i := 213) (by decide +kernel))
theorem kt_223 : (Jvm.Cond.castable "java/lang/IllegalArgumentException" "java/lang/IllegalArgumentException") ∈ lw_tbl := List.mem_append_right _ (List.mem_of_getElem? (i := 223) (by decide +kernel))
theorem kt_230 : (Jvm.Cond.stringRef "Takinghall" (60 : Nat) "area or use out of its range") ∈ lw_tbl := List.mem_append_right _ (List.mem_of_getElem? (i := 230) (by decide +kernel))
theorem kt_236 : (Jvm.Cond.superclass "java/lang/IllegalArgumentException" "java/lang/RuntimeException") ∈ lw_tbl := List.mem_append_right _ (List.mem_of_getElem? (i := 236) (by decide +kernel))
theorem kt_245 : (Jvm.Cond.castable "java/lang/IllegalStateException" "java/lang/IllegalStateException") ∈ lw_tbl := List.mem_append_right _ (List.mem_of_getElem? (i := 245) (by decide +kernel))
theorem kt_252 : (Jvm.Cond.stringRef "Takinghall" (73 : Nat) "the PLOT is not FREE, or NEEDED") ∈ lw_tbl := List.mem_append_right _ (List.mem_of_getElem? (i := 252) (by decide +kernel))
theorem kt_258 : (Jvm.Cond.superclass "java/lang/IllegalStateException" "java/lang/RuntimeException") ∈ lw_tbl := List.mem_append_right _ (List.mem_of_getElem? (i := 258) (by decide +kernel))
theorem kt_266 : (Jvm.Cond.stringRef "Takinghall" (82 : Nat) "use or cents out of its range") ∈ lw_tbl := List.mem_append_right _ (List.mem_of_getElem? (i := 266) (by decide +kernel))
theorem kt_281 : (Jvm.Cond.stringRef "Takinghall" (95 : Nat) "day out of its range") ∈ lw_tbl := List.mem_append_right _ (List.mem_of_getElem? (i := 281) (by decide +kernel))
theorem kt_316 : (Jvm.Cond.stringRef "Takinghall" (143 : Nat) "what out of its range") ∈ lw_tbl := List.mem_append_right _ (List.mem_of_getElem? (i := 316) (by decide +kernel))
theorem kt_327 : (Jvm.Cond.stringRef "Takinghall" (148 : Nat) "no such PLOT or PERSON") ∈ lw_tbl := List.mem_append_right _ (List.mem_of_getElem? (i := 327) (by decide +kernel))
theorem kt_332 : (Jvm.Cond.stringRef "Takinghall" (153 : Nat) "share out of its range, or too much with the others") ∈ lw_tbl := List.mem_append_right _ (List.mem_of_getElem? (i := 332) (by decide +kernel))
theorem kt_337 : (Jvm.Cond.stringRef "Takinghall" (158 : Nat) "too many INTERESTS, or the PLOT is not FREE") ∈ lw_tbl := List.mem_append_right _ (List.mem_of_getElem? (i := 337) (by decide +kernel))
theorem kt_401 : (Jvm.Cond.superclass "Takinghall$Interest" "java/lang/Object") ∈ lw_tbl := List.mem_append_right _ (List.mem_of_getElem? (i := 401) (by decide +kernel))
theorem kt_409 : (Jvm.Cond.stringRef "Takinghall" (164 : Nat) "until or profit out of its range") ∈ lw_tbl := List.mem_append_right _ (List.mem_of_getElem? (i := 409) (by decide +kernel))
theorem kt_418 : (Jvm.Cond.stringRef "Takinghall" (167 : Nat) "debt out of its range") ∈ lw_tbl := List.mem_append_right _ (List.mem_of_getElem? (i := 418) (by decide +kernel))
theorem kt_430 : (Jvm.Cond.stringRef "Takinghall" (173 : Nat) "no such INTEREST") ∈ lw_tbl := List.mem_append_right _ (List.mem_of_getElem? (i := 430) (by decide +kernel))
theorem kt_441 : (Jvm.Cond.stringRef "Takinghall" (209 : Nat) "harm or rise out of its range") ∈ lw_tbl := List.mem_append_right _ (List.mem_of_getElem? (i := 441) (by decide +kernel))
theorem kt_442 : (Jvm.Cond.stringRef "Takinghall" (214 : Nat) "too many SCHEMES") ∈ lw_tbl := List.mem_append_right _ (List.mem_of_getElem? (i := 442) (by decide +kernel))
theorem kt_472 : (Jvm.Cond.superclass "Takinghall$Scheme" "java/lang/Object") ∈ lw_tbl := List.mem_append_right _ (List.mem_of_getElem? (i := 472) (by decide +kernel))
theorem kt_484 : (Jvm.Cond.stringRef "Takinghall" (223 : Nat) "no such SCHEME or PLOT") ∈ lw_tbl := List.mem_append_right _ (List.mem_of_getElem? (i := 484) (by decide +kernel))
theorem kt_485 : (Jvm.Cond.stringRef "Takinghall" (225 : Nat) "part out of its range") ∈ lw_tbl := List.mem_append_right _ (List.mem_of_getElem? (i := 485) (by decide +kernel))
theorem kt_486 : (Jvm.Cond.stringRef "Takinghall" (228 : Nat) "the SCHEME is no DRAFT, or the PLOT is not FREE, or NEEDED") ∈ lw_tbl := List.mem_append_right _ (List.mem_of_getElem? (i := 486) (by decide +kernel))
theorem kt_507 : (Jvm.Cond.stringRef "Takinghall" (240 : Nat) "no notice can be given to it") ∈ lw_tbl := List.mem_append_right _ (List.mem_of_getElem? (i := 507) (by decide +kernel))
theorem kt_515 : (Jvm.Cond.stringRef "Takinghall" (246 : Nat) "it cannot object") ∈ lw_tbl := List.mem_append_right _ (List.mem_of_getElem? (i := 515) (by decide +kernel))
theorem kt_527 : (Jvm.Cond.stringRef "Takinghall" (251 : Nat) "it has no objection that can be heard") ∈ lw_tbl := List.mem_append_right _ (List.mem_of_getElem? (i := 527) (by decide +kernel))
theorem kt_539 : (Jvm.Cond.stringRef "Takinghall" (257 : Nat) "no such SCHEME") ∈ lw_tbl := List.mem_append_right _ (List.mem_of_getElem? (i := 539) (by decide +kernel))
theorem kt_544 : (Jvm.Cond.stringRef "Takinghall" (262 : Nat) "the SCHEME is no DRAFT, or NEEDS no FREE PLOT") ∈ lw_tbl := List.mem_append_right _ (List.mem_of_getElem? (i := 544) (by decide +kernel))
theorem kt_556 : (Jvm.Cond.stringRef "Takinghall" (268 : Nat) "an INTEREST stops the SCHEME") ∈ lw_tbl := List.mem_append_right _ (List.mem_of_getElem? (i := 556) (by decide +kernel))
theorem kt_571 : (Jvm.Cond.stringRef "Takinghall" (273 : Nat) "the SCHEME is DROPPED") ∈ lw_tbl := List.mem_append_right _ (List.mem_of_getElem? (i := 571) (by decide +kernel))
theorem kt_600 : (Jvm.Cond.stringRef "Takinghall" (285 : Nat) "the PLOT cannot be entered") ∈ lw_tbl := List.mem_append_right _ (List.mem_of_getElem? (i := 600) (by decide +kernel))
theorem kt_640 : (Jvm.Cond.stringRef "Takinghall" (290 : Nat) "not the INTEREST of an OWNER") ∈ lw_tbl := List.mem_append_right _ (List.mem_of_getElem? (i := 640) (by decide +kernel))
theorem kt_641 : (Jvm.Cond.stringRef "Takinghall" (292 : Nat) "the PLOT cannot be TAKEN by BLIGHT") ∈ lw_tbl := List.mem_append_right _ (List.mem_of_getElem? (i := 641) (by decide +kernel))
theorem kt_649 : (Jvm.Cond.stringRef "Takinghall" (294 : Nat) "WORKS cannot begin") ∈ lw_tbl := List.mem_append_right _ (List.mem_of_getElem? (i := 649) (by decide +kernel))
theorem kt_691 : (Jvm.Cond.stringRef "Takinghall" (320 : Nat) "no advance can be paid to it") ∈ lw_tbl := List.mem_append_right _ (List.mem_of_getElem? (i := 691) (by decide +kernel))
theorem kt_701 : (Jvm.Cond.stringRef "Takinghall" (329 : Nat) "it cannot be settled") ∈ lw_tbl := List.mem_append_right _ (List.mem_of_getElem? (i := 701) (by decide +kernel))
theorem kt_709 : (Jvm.Cond.stringRef "Takinghall" (331 : Nat) "the PLOT is not OFFERED") ∈ lw_tbl := List.mem_append_right _ (List.mem_of_getElem? (i := 709) (by decide +kernel))
theorem kt_724 : (Jvm.Cond.stringRef "Takinghall" (344 : Nat) "days out of its range") ∈ lw_tbl := List.mem_append_right _ (List.mem_of_getElem? (i := 724) (by decide +kernel))
theorem kt_725 : (Jvm.Cond.stringRef "Takinghall" (346 : Nat) "TODAY would be above the last day") ∈ lw_tbl := List.mem_append_right _ (List.mem_of_getElem? (i := 725) (by decide +kernel))
theorem kt_740 : (Jvm.Cond.stringRef "Takinghall" (357 : Nat) "no such PERSON") ∈ lw_tbl := List.mem_append_right _ (List.mem_of_getElem? (i := 740) (by decide +kernel))
theorem kt_853 : (Jvm.Cond.superclass "TakinghallModel" "java/lang/Object") ∈ lw_tbl := List.mem_append_right _ (List.mem_of_getElem? (i := 853) (by decide +kernel))
theorem kt_1079 : (Jvm.Cond.sameMethod "java/lang/Throwable" "java/lang/Throwable" "fillInStackTrace" "(I)Ljava/lang/Throwable;") ∈ lw_tbl := List.mem_append_right _ (List.mem_of_getElem? (i := 1079) (by decide +kernel))
theorem kp_0 : (Jvm.Cond.selects "Takinghall" ⟨"Takinghall", "plotAt", "(I)LTakinghall$Plot;"⟩ ⟨"Takinghall", "plotAt", "(I)LTakinghall$Plot;"⟩) ∈ wG := List.mem_filter.mpr ⟨List.mem_append_left _ (List.mem_of_getElem? (i := 0) (by decide +kernel)), by decide +kernel⟩
theorem kp_1 : (Jvm.Cond.selects "java/lang/Throwable" ⟨"java/lang/Throwable", "fillInStackTrace", "(I)Ljava/lang/Throwable;"⟩ ⟨"java/lang/Throwable", "fillInStackTrace", "(I)Ljava/lang/Throwable;"⟩) ∈ wG := List.mem_filter.mpr ⟨List.mem_append_left _ (List.mem_of_getElem? (i := 1) (by decide +kernel)), by decide +kernel⟩
theorem kp_2 : (Jvm.Cond.selects "Takinghall" ⟨"Takinghall", "priceOn", "(II)LTakinghall$Price;"⟩ ⟨"Takinghall", "priceOn", "(II)LTakinghall$Price;"⟩) ∈ wG := List.mem_filter.mpr ⟨List.mem_append_left _ (List.mem_of_getElem? (i := 2) (by decide +kernel)), by decide +kernel⟩
theorem kp_3 : (Jvm.Cond.selects "Takinghall" ⟨"Takinghall", "worthToday", "(LTakinghall$Plot;)I"⟩ ⟨"Takinghall", "worthToday", "(LTakinghall$Plot;)I"⟩) ∈ wG := List.mem_filter.mpr ⟨List.mem_append_left _ (List.mem_of_getElem? (i := 3) (by decide +kernel)), by decide +kernel⟩
theorem kp_4 : (Jvm.Cond.selects "Takinghall" ⟨"Takinghall", "isBesideNeeded", "(I)Z"⟩ ⟨"Takinghall", "isBesideNeeded", "(I)Z"⟩) ∈ wG := List.mem_filter.mpr ⟨List.mem_append_left _ (List.mem_of_getElem? (i := 4) (by decide +kernel)), by decide +kernel⟩
theorem kp_5 : (Jvm.Cond.selects "Takinghall" ⟨"Takinghall", "sharesOf", "(LTakinghall$Plot;)I"⟩ ⟨"Takinghall", "sharesOf", "(LTakinghall$Plot;)I"⟩) ∈ wG := List.mem_filter.mpr ⟨List.mem_append_left _ (List.mem_of_getElem? (i := 5) (by decide +kernel)), by decide +kernel⟩
theorem kp_6 : (Jvm.Cond.selects "Takinghall" ⟨"Takinghall", "canTellInterest", "(LTakinghall$Plot;)Z"⟩ ⟨"Takinghall", "canTellInterest", "(LTakinghall$Plot;)Z"⟩) ∈ wG := List.mem_filter.mpr ⟨List.mem_append_left _ (List.mem_of_getElem? (i := 6) (by decide +kernel)), by decide +kernel⟩
theorem kp_7 : (Jvm.Cond.selects "Takinghall" ⟨"Takinghall", "tellInterest", "(ILTakinghall$Plot;III)I"⟩ ⟨"Takinghall", "tellInterest", "(ILTakinghall$Plot;III)I"⟩) ∈ wG := List.mem_filter.mpr ⟨List.mem_append_left _ (List.mem_of_getElem? (i := 7) (by decide +kernel)), by decide +kernel⟩
theorem kp_8 : (Jvm.Cond.selects "Takinghall" ⟨"Takinghall", "interestAt", "(I)LTakinghall$Interest;"⟩ ⟨"Takinghall", "interestAt", "(I)LTakinghall$Interest;"⟩) ∈ wG := List.mem_filter.mpr ⟨List.mem_append_left _ (List.mem_of_getElem? (i := 8) (by decide +kernel)), by decide +kernel⟩
theorem kp_9 : (Jvm.Cond.selects "Takinghall" ⟨"Takinghall", "schemeAt", "(I)LTakinghall$Scheme;"⟩ ⟨"Takinghall", "schemeAt", "(I)LTakinghall$Scheme;"⟩) ∈ wG := List.mem_filter.mpr ⟨List.mem_append_left _ (List.mem_of_getElem? (i := 9) (by decide +kernel)), by decide +kernel⟩
theorem kp_10 : (Jvm.Cond.selects "Takinghall" ⟨"Takinghall", "countNeeded", "(LTakinghall$Scheme;)I"⟩ ⟨"Takinghall", "countNeeded", "(LTakinghall$Scheme;)I"⟩) ∈ wG := List.mem_filter.mpr ⟨List.mem_append_left _ (List.mem_of_getElem? (i := 10) (by decide +kernel)), by decide +kernel⟩
theorem kp_11 : (Jvm.Cond.selects "Takinghall" ⟨"Takinghall", "countOpenObjections", "(LTakinghall$Scheme;)I"⟩ ⟨"Takinghall", "countOpenObjections", "(LTakinghall$Scheme;)I"⟩) ∈ wG := List.mem_filter.mpr ⟨List.mem_append_left _ (List.mem_of_getElem? (i := 11) (by decide +kernel)), by decide +kernel⟩
theorem kp_12 : (Jvm.Cond.selects "Takinghall" ⟨"Takinghall", "release", "(LTakinghall$Plot;)V"⟩ ⟨"Takinghall", "release", "(LTakinghall$Plot;)V"⟩) ∈ wG := List.mem_filter.mpr ⟨List.mem_append_left _ (List.mem_of_getElem? (i := 12) (by decide +kernel)), by decide +kernel⟩
theorem kp_13 : (Jvm.Cond.selects "Takinghall" ⟨"Takinghall", "countFreeNeeded", "(LTakinghall$Scheme;)I"⟩ ⟨"Takinghall", "countFreeNeeded", "(LTakinghall$Scheme;)I"⟩) ∈ wG := List.mem_filter.mpr ⟨List.mem_append_left _ (List.mem_of_getElem? (i := 13) (by decide +kernel)), by decide +kernel⟩
theorem kp_14 : (Jvm.Cond.selects "Takinghall" ⟨"Takinghall", "lowestThatStops", "(LTakinghall$Scheme;)LTakinghall$Interest;"⟩ ⟨"Takinghall", "lowestThatStops", "(LTakinghall$Scheme;)LTakinghall$Interest;"⟩) ∈ wG := List.mem_filter.mpr ⟨List.mem_append_left _ (List.mem_of_getElem? (i := 14) (by decide +kernel)), by decide +kernel⟩
theorem kp_15 : (Jvm.Cond.selects "Takinghall" ⟨"Takinghall", "stops", "(LTakinghall$Interest;)Z"⟩ ⟨"Takinghall", "stops", "(LTakinghall$Interest;)Z"⟩) ∈ wG := List.mem_filter.mpr ⟨List.mem_append_left _ (List.mem_of_getElem? (i := 15) (by decide +kernel)), by decide +kernel⟩
theorem kp_16 : (Jvm.Cond.selects "Takinghall" ⟨"Takinghall", "letGo", "(LTakinghall$Plot;)Z"⟩ ⟨"Takinghall", "letGo", "(LTakinghall$Plot;)Z"⟩) ∈ wG := List.mem_filter.mpr ⟨List.mem_append_left _ (List.mem_of_getElem? (i := 16) (by decide +kernel)), by decide +kernel⟩
theorem kp_17 : (Jvm.Cond.selects "Takinghall" ⟨"Takinghall", "ownerBehind", "(LTakinghall$Plot;LTakinghall$Interest;)LTakinghall$Interest;"⟩ ⟨"Takinghall", "ownerBehind", "(LTakinghall$Plot;LTakinghall$Interest;)LTakinghall$Interest;"⟩) ∈ wG := List.mem_filter.mpr ⟨List.mem_append_left _ (List.mem_of_getElem? (i := 17) (by decide +kernel)), by decide +kernel⟩
theorem kp_18 : (Jvm.Cond.selects "Takinghall" ⟨"Takinghall", "take", "(LTakinghall$Plot;)I"⟩ ⟨"Takinghall", "take", "(LTakinghall$Plot;)I"⟩) ∈ wG := List.mem_filter.mpr ⟨List.mem_append_left _ (List.mem_of_getElem? (i := 18) (by decide +kernel)), by decide +kernel⟩
theorem kp_19 : (Jvm.Cond.selects "Takinghall" ⟨"Takinghall", "sumBy", "(LTakinghall$Interest;I)J"⟩ ⟨"Takinghall", "sumBy", "(LTakinghall$Interest;I)J"⟩) ∈ wG := List.mem_filter.mpr ⟨List.mem_append_left _ (List.mem_of_getElem? (i := 19) (by decide +kernel)), by decide +kernel⟩
theorem kp_20 : (Jvm.Cond.selects "Takinghall" ⟨"Takinghall", "ownerSum", "(LTakinghall$Interest;LTakinghall$Plot;I)I"⟩ ⟨"Takinghall", "ownerSum", "(LTakinghall$Interest;LTakinghall$Plot;I)I"⟩) ∈ wG := List.mem_filter.mpr ⟨List.mem_append_left _ (List.mem_of_getElem? (i := 20) (by decide +kernel)), by decide +kernel⟩
theorem kp_21 : (Jvm.Cond.selects "Takinghall" ⟨"Takinghall", "leftBehindCharges", "(LTakinghall$Plot;II)I"⟩ ⟨"Takinghall", "leftBehindCharges", "(LTakinghall$Plot;II)I"⟩) ∈ wG := List.mem_filter.mpr ⟨List.mem_append_left _ (List.mem_of_getElem? (i := 21) (by decide +kernel)), by decide +kernel⟩
theorem kp_22 : (Jvm.Cond.selects "Takinghall" ⟨"Takinghall", "leftForCourt", "(LTakinghall$Plot;I)I"⟩ ⟨"Takinghall", "leftForCourt", "(LTakinghall$Plot;I)I"⟩) ∈ wG := List.mem_filter.mpr ⟨List.mem_append_left _ (List.mem_of_getElem? (i := 22) (by decide +kernel)), by decide +kernel⟩
theorem kp_23 : (Jvm.Cond.selects "Takinghall" ⟨"Takinghall", "countWorks", "()I"⟩ ⟨"Takinghall", "countWorks", "()I"⟩) ∈ wG := List.mem_filter.mpr ⟨List.mem_append_left _ (List.mem_of_getElem? (i := 23) (by decide +kernel)), by decide +kernel⟩
theorem kp_24 : (Jvm.Cond.selects "Takinghall" ⟨"Takinghall", "owedTo", "(LTakinghall$Interest;)J"⟩ ⟨"Takinghall", "owedTo", "(LTakinghall$Interest;)J"⟩) ∈ wG := List.mem_filter.mpr ⟨List.mem_append_left _ (List.mem_of_getElem? (i := 24) (by decide +kernel)), by decide +kernel⟩
theorem kp_25 : (Jvm.Cond.selects "Takinghall" ⟨"Takinghall", "gainOf", "(LTakinghall$Interest;)J"⟩ ⟨"Takinghall", "gainOf", "(LTakinghall$Interest;)J"⟩) ∈ wG := List.mem_filter.mpr ⟨List.mem_append_left _ (List.mem_of_getElem? (i := 25) (by decide +kernel)), by decide +kernel⟩
theorem kp_26 : (Jvm.Cond.selects "TakinghallModel" ⟨"TakinghallModel", "isPlot", "(I)Z"⟩ ⟨"TakinghallModel", "isPlot", "(I)Z"⟩) ∈ wG := List.mem_filter.mpr ⟨List.mem_append_left _ (List.mem_of_getElem? (i := 26) (by decide +kernel)), by decide +kernel⟩
theorem kp_27 : (Jvm.Cond.selects "TakinghallModel" ⟨"TakinghallModel", "between", "(III)Z"⟩ ⟨"TakinghallModel", "between", "(III)Z"⟩) ∈ wG := List.mem_filter.mpr ⟨List.mem_append_left _ (List.mem_of_getElem? (i := 27) (by decide +kernel)), by decide +kernel⟩
theorem kp_28 : (Jvm.Cond.selects "TakinghallModel" ⟨"TakinghallModel", "isUse", "(I)Z"⟩ ⟨"TakinghallModel", "isUse", "(I)Z"⟩) ∈ wG := List.mem_filter.mpr ⟨List.mem_append_left _ (List.mem_of_getElem? (i := 28) (by decide +kernel)), by decide +kernel⟩
theorem kp_29 : (Jvm.Cond.selects "TakinghallModel" ⟨"TakinghallModel", "worthOn", "(II)I"⟩ ⟨"TakinghallModel", "worthOn", "(II)I"⟩) ∈ wG := List.mem_filter.mpr ⟨List.mem_append_left _ (List.mem_of_getElem? (i := 29) (by decide +kernel)), by decide +kernel⟩
theorem kp_30 : (Jvm.Cond.selects "TakinghallModel" ⟨"TakinghallModel", "isNeededBeside", "(I)Z"⟩ ⟨"TakinghallModel", "isNeededBeside", "(I)Z"⟩) ∈ wG := List.mem_filter.mpr ⟨List.mem_append_left _ (List.mem_of_getElem? (i := 30) (by decide +kernel)), by decide +kernel⟩
theorem kp_31 : (Jvm.Cond.selects "TakinghallModel" ⟨"TakinghallModel", "tell", "(IIIIZ)I"⟩ ⟨"TakinghallModel", "tell", "(IIIIZ)I"⟩) ∈ wG := List.mem_filter.mpr ⟨List.mem_append_left _ (List.mem_of_getElem? (i := 31) (by decide +kernel)), by decide +kernel⟩
theorem kp_32 : (Jvm.Cond.selects "TakinghallModel" ⟨"TakinghallModel", "isInterest", "(I)Z"⟩ ⟨"TakinghallModel", "isInterest", "(I)Z"⟩) ∈ wG := List.mem_filter.mpr ⟨List.mem_append_left _ (List.mem_of_getElem? (i := 32) (by decide +kernel)), by decide +kernel⟩
theorem kp_33 : (Jvm.Cond.selects "TakinghallModel" ⟨"TakinghallModel", "isScheme", "(I)Z"⟩ ⟨"TakinghallModel", "isScheme", "(I)Z"⟩) ∈ wG := List.mem_filter.mpr ⟨List.mem_append_left _ (List.mem_of_getElem? (i := 33) (by decide +kernel)), by decide +kernel⟩
theorem kp_34 : (Jvm.Cond.selects "TakinghallModel" ⟨"TakinghallModel", "neededBy", "(IZ)I"⟩ ⟨"TakinghallModel", "neededBy", "(IZ)I"⟩) ∈ wG := List.mem_filter.mpr ⟨List.mem_append_left _ (List.mem_of_getElem? (i := 34) (by decide +kernel)), by decide +kernel⟩
theorem kp_35 : (Jvm.Cond.selects "TakinghallModel" ⟨"TakinghallModel", "isDrafted", "(I)Z"⟩ ⟨"TakinghallModel", "isDrafted", "(I)Z"⟩) ∈ wG := List.mem_filter.mpr ⟨List.mem_append_left _ (List.mem_of_getElem? (i := 35) (by decide +kernel)), by decide +kernel⟩
theorem kp_36 : (Jvm.Cond.selects "TakinghallModel" ⟨"TakinghallModel", "openOf", "(I)I"⟩ ⟨"TakinghallModel", "openOf", "(I)I"⟩) ∈ wG := List.mem_filter.mpr ⟨List.mem_append_left _ (List.mem_of_getElem? (i := 36) (by decide +kernel)), by decide +kernel⟩
theorem kp_37 : (Jvm.Cond.selects "TakinghallModel" ⟨"TakinghallModel", "letGo", "(I)V"⟩ ⟨"TakinghallModel", "letGo", "(I)V"⟩) ∈ wG := List.mem_filter.mpr ⟨List.mem_append_left _ (List.mem_of_getElem? (i := 37) (by decide +kernel)), by decide +kernel⟩
theorem kp_38 : (Jvm.Cond.selects "TakinghallModel" ⟨"TakinghallModel", "stopper", "(I)I"⟩ ⟨"TakinghallModel", "stopper", "(I)I"⟩) ∈ wG := List.mem_filter.mpr ⟨List.mem_append_left _ (List.mem_of_getElem? (i := 38) (by decide +kernel)), by decide +kernel⟩
theorem kp_39 : (Jvm.Cond.selects "TakinghallModel" ⟨"TakinghallModel", "ownerBehind", "(II)I"⟩ ⟨"TakinghallModel", "ownerBehind", "(II)I"⟩) ∈ wG := List.mem_filter.mpr ⟨List.mem_append_left _ (List.mem_of_getElem? (i := 39) (by decide +kernel)), by decide +kernel⟩
theorem kp_40 : (Jvm.Cond.selects "TakinghallModel" ⟨"TakinghallModel", "take", "(I)I"⟩ ⟨"TakinghallModel", "take", "(I)I"⟩) ∈ wG := List.mem_filter.mpr ⟨List.mem_append_left _ (List.mem_of_getElem? (i := 40) (by decide +kernel)), by decide +kernel⟩
theorem kp_41 : (Jvm.Cond.selects "TakinghallModel" ⟨"TakinghallModel", "landOf", "(II)I"⟩ ⟨"TakinghallModel", "landOf", "(II)I"⟩) ∈ wG := List.mem_filter.mpr ⟨List.mem_append_left _ (List.mem_of_getElem? (i := 41) (by decide +kernel)), by decide +kernel⟩
theorem kp_42 : (Jvm.Cond.selects "TakinghallModel" ⟨"TakinghallModel", "leftAhead", "(II)J"⟩ ⟨"TakinghallModel", "leftAhead", "(II)J"⟩) ∈ wG := List.mem_filter.mpr ⟨List.mem_append_left _ (List.mem_of_getElem? (i := 42) (by decide +kernel)), by decide +kernel⟩
theorem kp_43 : (Jvm.Cond.selects "TakinghallModel" ⟨"TakinghallModel", "sumOf", "(I)J"⟩ ⟨"TakinghallModel", "sumOf", "(I)J"⟩) ∈ wG := List.mem_filter.mpr ⟨List.mem_append_left _ (List.mem_of_getElem? (i := 43) (by decide +kernel)), by decide +kernel⟩
theorem kp_44 : (Jvm.Cond.selects "TakinghallModel" ⟨"TakinghallModel", "byShare", "(I)J"⟩ ⟨"TakinghallModel", "byShare", "(I)J"⟩) ∈ wG := List.mem_filter.mpr ⟨List.mem_append_left _ (List.mem_of_getElem? (i := 44) (by decide +kernel)), by decide +kernel⟩
theorem kp_45 : (Jvm.Cond.selects "TakinghallModel" ⟨"TakinghallModel", "wasTaken", "(I)Z"⟩ ⟨"TakinghallModel", "wasTaken", "(I)Z"⟩) ∈ wG := List.mem_filter.mpr ⟨List.mem_append_left _ (List.mem_of_getElem? (i := 45) (by decide +kernel)), by decide +kernel⟩
theorem kp_46 : (Jvm.Cond.selects "TakinghallModel" ⟨"TakinghallModel", "owedTo", "(I)J"⟩ ⟨"TakinghallModel", "owedTo", "(I)J"⟩) ∈ wG := List.mem_filter.mpr ⟨List.mem_append_left _ (List.mem_of_getElem? (i := 46) (by decide +kernel)), by decide +kernel⟩
theorem kp_47 : (Jvm.Cond.selects "TakinghallModel" ⟨"TakinghallModel", "gain", "(JI)J"⟩ ⟨"TakinghallModel", "gain", "(JI)J"⟩) ∈ wG := List.mem_filter.mpr ⟨List.mem_append_left _ (List.mem_of_getElem? (i := 47) (by decide +kernel)), by decide +kernel⟩
theorem uw_X0 : ∀ w ∈ u_ws RX0 TX0 15, w ∈ wG := by decide +kernel
theorem uw_X1 : ∀ w ∈ u_ws RX1 TX1 11, w ∈ wG := by decide +kernel
theorem uw_X2 : ∀ w ∈ u_ws RX2 TX2 3, w ∈ wG := by decide +kernel
theorem uw_X3 : ∀ w ∈ u_ws RX3 TX3 6, w ∈ wG := by decide +kernel
theorem uw_X4 : ∀ w ∈ u_ws RX4 TX4 12, w ∈ wG := by decide +kernel
theorem uw_X5 : ∀ w ∈ u_ws RX5 TX5 35, w ∈ wG := by decide +kernel
end
section
/-! whole numbers behind the machine's ints and longs -/
def iI (x : Int) : Int32 := Int32.ofInt x
def lI (x : Int) : Int64 := Int64.ofInt x
abbrev in32 (x : Int) : Prop := -2147483648 ≤ x ∧ x < 2147483648
abbrev in64 (x : Int) : Prop := -9223372036854775808 ≤ x ∧ x < 9223372036854775808
theorem iI_toInt {x : Int} (h : in32 x) : (iI x).toInt = x := Int32.toInt_ofInt_of_le h.1 h.2
theorem lI_toInt {x : Int} (h : in64 x) : (lI x).toInt = x := Int64.toInt_ofInt_of_le h.1 h.2
theorem iI_self (x : Int32) : iI x.toInt = x := Int32.ofInt_toInt x
theorem iI_in (x : Int32) : in32 x.toInt := ⟨Int32.le_toInt x, Int32.toInt_lt x⟩
theorem iI_add (a b : Int) : iI a + iI b = iI (a + b) := (Int32.ofInt_add a b).symm
theorem iI_sub (a b : Int) : iI a - iI b = iI (a - b) := (Int32.ofInt_sub a b).symm
theorem iI_mul (a b : Int) : iI a * iI b = iI (a * b) := (Int32.ofInt_mul a b).symm
theorem lI_add (a b : Int) : lI a + lI b = lI (a + b) := (Int64.ofInt_add a b).symm
theorem lI_sub (a b : Int) : lI a - lI b = lI (a - b) := (Int64.ofInt_sub a b).symm
theorem lI_mul (a b : Int) : lI a * lI b = lI (a * b) := (Int64.ofInt_mul a b).symm
theorem iI_div {a b : Int} (ha : 0 ≤ a ∧ a < 2147483648) (hb : 0 < b ∧ b < 2147483648) : iI a / iI b = iI (a / b) := by
  rw [← Int.tdiv_eq_ediv_of_nonneg ha.1]
  exact (Int32.ofInt_tdiv (by show (-2147483648 : Int) ≤ a; omega) (by show a ≤ (2147483647 : Int); omega) (by show (-2147483648 : Int) ≤ b; omega) (by show b ≤ (2147483647 : Int); omega)).symm
theorem lI_div {a b : Int} (ha : 0 ≤ a ∧ a < 9223372036854775808) (hb : 0 < b ∧ b < 9223372036854775808) : lI a / lI b = lI (a / b) := by
  rw [← Int.tdiv_eq_ediv_of_nonneg ha.1]
  exact (Int64.ofInt_tdiv (by show (-9223372036854775808 : Int) ≤ a; omega) (by show a ≤ (9223372036854775807 : Int); omega) (by show (-9223372036854775808 : Int) ≤ b; omega) (by show b ≤ (9223372036854775807 : Int); omega)).symm
theorem iI_lI {a : Int} (h : in32 a) : (iI a).toInt64 = lI a := Int32.toInt64_ofInt (by show (-2147483648 : Int) ≤ a; omega) (by show a ≤ (2147483647 : Int); omega)
theorem lI_iI (a : Int) : (lI a).toInt32 = iI a := Int64.toInt32_ofInt
theorem iI_inj {a b : Int} (ha : in32 a) (hb : in32 b) : iI a = iI b ↔ a = b := ⟨fun h => by rw [← iI_toInt ha, ← iI_toInt hb, h], fun h => by rw [h]⟩
theorem lI_inj {a b : Int} (ha : in64 a) (hb : in64 b) : lI a = lI b ↔ a = b := ⟨fun h => by rw [← lI_toInt ha, ← lI_toInt hb, h], fun h => by rw [h]⟩
theorem iI_lt {a b : Int} (ha : in32 a) (hb : in32 b) : iI a < iI b ↔ a < b := by rw [Int32.lt_iff_toInt_lt, iI_toInt ha, iI_toInt hb]
theorem iI_le {a b : Int} (ha : in32 a) (hb : in32 b) : iI a ≤ iI b ↔ a ≤ b := by rw [Int32.le_iff_toInt_le, iI_toInt ha, iI_toInt hb]
theorem lI_lt {a b : Int} (ha : in64 a) (hb : in64 b) : lI a < lI b ↔ a < b := by rw [Int64.lt_iff_toInt_lt, lI_toInt ha, lI_toInt hb]
theorem iI_0 : iI 0 = 0 := rfl
theorem in32_0 : in32 0 := ⟨by decide, by decide⟩
theorem iI_clamp {a : Int} (h : in32 a) : (iI a).toNatClampNeg = a.toNat := Int32.toNatClampNeg_ofInt_of_le h.1 h.2
theorem iI_vin {a : Int} {n : Nat} (h : 0 ≤ a ∧ a < n) (hn : n < 2147483648) : vp_in (iI a) n := by
  have h32 : in32 a := ⟨by omega, by omega⟩
  rw [vp_in_iff, iI_toInt h32]; exact h
theorem iI_arr (a : Nat) : Nat.toInt32 a = iI (a : Int) := Int32.ofInt_eq_ofNat.symm
/-- a truth value as the machine has it -/
noncomputable def bI (P : Prop) : Int := @ite Int P (Classical.propDecidable P) 1 0
theorem bI_t {P : Prop} (h : P) : bI P = 1 := if_pos h
theorem bI_f {P : Prop} (h : ¬ P) : bI P = 0 := if_neg h
theorem bI_cases (P : Prop) : (P ∧ bI P = 1) ∨ (¬ P ∧ bI P = 0) := (Classical.em P).elim (fun h => Or.inl ⟨h, bI_t h⟩) (fun h => Or.inr ⟨h, bI_f h⟩)
theorem bI_in (P : Prop) : 0 ≤ bI P ∧ bI P ≤ 1 := by rcases bI_cases P with ⟨-, h⟩ | ⟨-, h⟩ <;> rw [h] <;> decide
theorem bI_1 {P : Prop} : bI P = 1 ↔ P := ⟨fun h => by rcases bI_cases P with ⟨q, -⟩ | ⟨-, q⟩; exact q; rw [q] at h; exact absurd h (by decide), bI_t⟩
theorem bI_0 {P : Prop} : bI P = 0 ↔ ¬ P := ⟨fun h => by rcases bI_cases P with ⟨-, q⟩ | ⟨q, -⟩; rw [q] at h; exact absurd h (by decide); exact q, bI_f⟩
theorem bI_eq {P : Prop} {b : Int} (h : (P → b = 1) ∧ (¬ P → b = 0)) : bI P = b := by rcases bI_cases P with ⟨p, q⟩ | ⟨p, q⟩; rw [q, h.1 p]; rw [q, h.2 p]
/-- a reference by its number: below 0 it is null -/
def ro (f : Int → Nat) (v : Int) : Option Nat := if v < 0 then none else some (f v)
def rv (f : Int → Nat) (v : Int) : Value := va_rf (ro f v)
theorem rv_n {f : Int → Nat} {v : Int} (h : v < 0) : rv f v = .null := by unfold rv ro; rw [if_pos h]; rfl
theorem rv_p {f : Int → Nat} {v : Int} (h : 0 ≤ v) : rv f v = .ref (f v) := by unfold rv ro; rw [if_neg (by omega)]; rfl
theorem rv_cat (f : Int → Nat) (v : Int) : (rv f v).category = 1 := by unfold rv; cases ro f v <;> rfl
theorem rv_ret (f : Int → Nat) (v : Int) : rv f v = .null ∨ ∃ a, rv f v = .ref a := by unfold rv; cases ro f v <;> simp [va_rf]
theorem rv_fit (f : Int → Nat) (v : Int) (n : String) : narrow (.object n) (rv f v) = rv f v ∧ fits (.object n) (rv f v) = true := by unfold rv; cases ro f v <;> exact ⟨rfl, rfl⟩

section XB
variable {p : Program} {l : Launch} {e : Env} {R : Room} {s : State} {m : MethodId} {args : Array Value} {below : List Frame} {meth : Method} {c : Code} {H : Heap} {locs : List Loc} {cells slots : Nat} {Q : State → Prop}
variable {cc : ByteArray} {pc : Nat} {ls : Array Slot} {rest : List Value}
theorem xr_iadd (hexec : p.tables.exec = Jvm.exec) (hb : c.code = cc) {a b : Int} (d : decode cc pc = .ok (.iadd, 1)) (k : W p l e R s m args below meth c H locs cells slots Q (F0 m (pc + 1) ls (.int (iI (a + b)) :: rest))) : W p l e R s m args below meth c H locs cells slots Q (F0 m pc ls (.int (iI b) :: .int (iI a) :: rest)) := by
  refine lv_iadd hexec hb d ?_
  rw [iI_add]
  exact k
theorem xr_isub (hexec : p.tables.exec = Jvm.exec) (hb : c.code = cc) {a b : Int} (d : decode cc pc = .ok (.isub, 1)) (k : W p l e R s m args below meth c H locs cells slots Q (F0 m (pc + 1) ls (.int (iI (a - b)) :: rest))) : W p l e R s m args below meth c H locs cells slots Q (F0 m pc ls (.int (iI b) :: .int (iI a) :: rest)) := by
  refine lv_isub hexec hb d ?_
  rw [iI_sub]
  exact k
theorem xr_imul (hexec : p.tables.exec = Jvm.exec) (hb : c.code = cc) {a b : Int} (d : decode cc pc = .ok (.imul, 1)) (k : W p l e R s m args below meth c H locs cells slots Q (F0 m (pc + 1) ls (.int (iI (a * b)) :: rest))) : W p l e R s m args below meth c H locs cells slots Q (F0 m pc ls (.int (iI b) :: .int (iI a) :: rest)) := by
  refine lv_imul hexec hb d ?_
  rw [iI_mul]
  exact k
theorem xr_idiv (hexec : p.tables.exec = Jvm.exec) (hb : c.code = cc) {a b : Int} (d : decode cc pc = .ok (.idiv, 1)) (ha : 0 ≤ a ∧ a < 2147483648) (hq : 0 < b ∧ b < 2147483648) (k : W p l e R s m args below meth c H locs cells slots Q (F0 m (pc + 1) ls (.int (iI (a / b)) :: rest))) : W p l e R s m args below meth c H locs cells slots Q (F0 m pc ls (.int (iI b) :: .int (iI a) :: rest)) := by
  refine lv_idiv hexec hb d (fun h => ?_) ?_
  · have h0 : iI b = iI 0 := h
    have h1 := (iI_inj ⟨by omega, by omega⟩ ⟨by decide, by decide⟩).mp h0
    omega
  · rw [iI_div ha hq]; exact k
theorem xr_ladd (hexec : p.tables.exec = Jvm.exec) (hb : c.code = cc) {a b : Int} (d : decode cc pc = .ok (.ladd, 1)) (k : W p l e R s m args below meth c H locs cells slots Q (F0 m (pc + 1) ls (.long (lI (a + b)) :: rest))) : W p l e R s m args below meth c H locs cells slots Q (F0 m pc ls (.long (lI b) :: .long (lI a) :: rest)) := by
  refine lv_ladd hexec hb d ?_
  rw [lI_add]
  exact k
theorem xr_lsub (hexec : p.tables.exec = Jvm.exec) (hb : c.code = cc) {a b : Int} (d : decode cc pc = .ok (.lsub, 1)) (k : W p l e R s m args below meth c H locs cells slots Q (F0 m (pc + 1) ls (.long (lI (a - b)) :: rest))) : W p l e R s m args below meth c H locs cells slots Q (F0 m pc ls (.long (lI b) :: .long (lI a) :: rest)) := by
  refine lv_lsub hexec hb d ?_
  rw [lI_sub]
  exact k
theorem xr_lmul (hexec : p.tables.exec = Jvm.exec) (hb : c.code = cc) {a b : Int} (d : decode cc pc = .ok (.lmul, 1)) (k : W p l e R s m args below meth c H locs cells slots Q (F0 m (pc + 1) ls (.long (lI (a * b)) :: rest))) : W p l e R s m args below meth c H locs cells slots Q (F0 m pc ls (.long (lI b) :: .long (lI a) :: rest)) := by
  refine lv_lmul hexec hb d ?_
  rw [lI_mul]
  exact k
theorem xr_ldiv (hexec : p.tables.exec = Jvm.exec) (hb : c.code = cc) {a b : Int} (d : decode cc pc = .ok (.ldiv, 1)) (ha : 0 ≤ a ∧ a < 9223372036854775808) (hq : 0 < b ∧ b < 9223372036854775808) (k : W p l e R s m args below meth c H locs cells slots Q (F0 m (pc + 1) ls (.long (lI (a / b)) :: rest))) : W p l e R s m args below meth c H locs cells slots Q (F0 m pc ls (.long (lI b) :: .long (lI a) :: rest)) := by
  refine lv_ldiv hexec hb d (fun h => ?_) ?_
  · have h0 : lI b = lI 0 := h
    have h1 := (lI_inj ⟨by omega, by omega⟩ ⟨by decide, by decide⟩).mp h0
    omega
  · rw [lI_div ha hq]; exact k
theorem xr_irem (hexec : p.tables.exec = Jvm.exec) (hb : c.code = cc) {a b : Int} (d : decode cc pc = .ok (.irem, 1)) (ha : 0 ≤ a ∧ a < 2147483648) (hq : 0 < b ∧ b < 2147483648) (k : W p l e R s m args below meth c H locs cells slots Q (F0 m (pc + 1) ls (.int (iI (a % b)) :: rest))) : W p l e R s m args below meth c H locs cells slots Q (F0 m pc ls (.int (iI b) :: .int (iI a) :: rest)) := by
  refine lv_irem hexec hb d (fun h => ?_) ?_
  · have h0 : iI b = iI 0 := h
    have h1 := (iI_inj ⟨by omega, by omega⟩ ⟨by decide, by decide⟩).mp h0
    omega
  · rw [iI_div ha hq, iI_mul, iI_sub, show a - a / b * b = a % b by rw [Int.emod_def, Int.mul_comm]]; exact k
theorem xr_i2l (hexec : p.tables.exec = Jvm.exec) (hb : c.code = cc) {a : Int} (d : decode cc pc = .ok (.i2l, 1)) (ha : in32 a) (k : W p l e R s m args below meth c H locs cells slots Q (F0 m (pc + 1) ls (.long (lI a) :: rest))) : W p l e R s m args below meth c H locs cells slots Q (F0 m pc ls (.int (iI a) :: rest)) := by
  exact lv_i2l hexec hb d (iI_lI ha) k
theorem xr_l2i (hexec : p.tables.exec = Jvm.exec) (hb : c.code = cc) {a : Int} (d : decode cc pc = .ok (.l2i, 1)) (k : W p l e R s m args below meth c H locs cells slots Q (F0 m (pc + 1) ls (.int (iI a) :: rest))) : W p l e R s m args below meth c H locs cells slots Q (F0 m pc ls (.long (lI a) :: rest)) := by
  exact lv_l2i hexec hb d (lI_iI a) k
theorem xr_icmp_eq (hexec : p.tables.exec = Jvm.exec) (hb : c.code = cc) {a b : Int} {off : Int} {tgt : Nat} (d : decode cc pc = .ok (.if_icmp .eq off, 3)) (ht : (pc : Int) + off = (tgt : Int)) (ha : in32 a) (hq : in32 b) (k1 : a = b → W p l e R s m args below meth c H locs cells slots Q (F0 m tgt ls rest)) (k2 : a ≠ b → W p l e R s m args below meth c H locs cells slots Q (F0 m (pc + 3) ls rest)) : W p l e R s m args below meth c H locs cells slots Q (F0 m pc ls (.int (iI b) :: .int (iI a) :: rest)) := by
  refine lv_icmp_eq hexec hb d ht (fun h => k1 ?_) (fun h => k2 ?_)
  · have h1 := (iI_inj ha hq).mp h; omega
  · have h1 := (not_congr (iI_inj ha hq)).mp h; omega
theorem xr_if_eq (hexec : p.tables.exec = Jvm.exec) (hb : c.code = cc) {a : Int} {off : Int} {tgt : Nat} (d : decode cc pc = .ok (.ifCond .eq off, 3)) (ht : (pc : Int) + off = (tgt : Int)) (ha : in32 a) (k1 : a = 0 → W p l e R s m args below meth c H locs cells slots Q (F0 m tgt ls rest)) (k2 : a ≠ 0 → W p l e R s m args below meth c H locs cells slots Q (F0 m (pc + 3) ls rest)) : W p l e R s m args below meth c H locs cells slots Q (F0 m pc ls (.int (iI a) :: rest)) := by
  have hq : in32 0 := in32_0
  refine lv_if_eq hexec hb d ht (fun h => k1 ?_) (fun h => k2 ?_)
  · have h1 := (iI_inj ha (in32_0)).mp (iI_0 ▸ h); omega
  · have h1 := (not_congr (iI_inj ha (in32_0))).mp (iI_0 ▸ h); omega
theorem xr_icmp_ne (hexec : p.tables.exec = Jvm.exec) (hb : c.code = cc) {a b : Int} {off : Int} {tgt : Nat} (d : decode cc pc = .ok (.if_icmp .ne off, 3)) (ht : (pc : Int) + off = (tgt : Int)) (ha : in32 a) (hq : in32 b) (k1 : a ≠ b → W p l e R s m args below meth c H locs cells slots Q (F0 m tgt ls rest)) (k2 : a = b → W p l e R s m args below meth c H locs cells slots Q (F0 m (pc + 3) ls rest)) : W p l e R s m args below meth c H locs cells slots Q (F0 m pc ls (.int (iI b) :: .int (iI a) :: rest)) := by
  refine lv_icmp_ne hexec hb d ht (fun h => k1 ?_) (fun h => k2 ?_)
  · have h1 := (not_congr (iI_inj ha hq)).mp h; omega
  · have h1 := (iI_inj ha hq).mp h; omega
theorem xr_if_ne (hexec : p.tables.exec = Jvm.exec) (hb : c.code = cc) {a : Int} {off : Int} {tgt : Nat} (d : decode cc pc = .ok (.ifCond .ne off, 3)) (ht : (pc : Int) + off = (tgt : Int)) (ha : in32 a) (k1 : a ≠ 0 → W p l e R s m args below meth c H locs cells slots Q (F0 m tgt ls rest)) (k2 : a = 0 → W p l e R s m args below meth c H locs cells slots Q (F0 m (pc + 3) ls rest)) : W p l e R s m args below meth c H locs cells slots Q (F0 m pc ls (.int (iI a) :: rest)) := by
  have hq : in32 0 := in32_0
  refine lv_if_ne hexec hb d ht (fun h => k1 ?_) (fun h => k2 ?_)
  · have h1 := (not_congr (iI_inj ha (in32_0))).mp (iI_0 ▸ h); omega
  · have h1 := (iI_inj ha (in32_0)).mp (iI_0 ▸ h); omega
theorem xr_icmp_lt (hexec : p.tables.exec = Jvm.exec) (hb : c.code = cc) {a b : Int} {off : Int} {tgt : Nat} (d : decode cc pc = .ok (.if_icmp .lt off, 3)) (ht : (pc : Int) + off = (tgt : Int)) (ha : in32 a) (hq : in32 b) (k1 : a < b → W p l e R s m args below meth c H locs cells slots Q (F0 m tgt ls rest)) (k2 : b ≤ a → W p l e R s m args below meth c H locs cells slots Q (F0 m (pc + 3) ls rest)) : W p l e R s m args below meth c H locs cells slots Q (F0 m pc ls (.int (iI b) :: .int (iI a) :: rest)) := by
  refine lv_icmp_lt hexec hb d ht (fun h => k1 ?_) (fun h => k2 ?_)
  · have h1 := (iI_lt ha hq).mp h; omega
  · have h1 := (not_congr (iI_lt ha hq)).mp h; omega
theorem xr_if_lt (hexec : p.tables.exec = Jvm.exec) (hb : c.code = cc) {a : Int} {off : Int} {tgt : Nat} (d : decode cc pc = .ok (.ifCond .lt off, 3)) (ht : (pc : Int) + off = (tgt : Int)) (ha : in32 a) (k1 : a < 0 → W p l e R s m args below meth c H locs cells slots Q (F0 m tgt ls rest)) (k2 : 0 ≤ a → W p l e R s m args below meth c H locs cells slots Q (F0 m (pc + 3) ls rest)) : W p l e R s m args below meth c H locs cells slots Q (F0 m pc ls (.int (iI a) :: rest)) := by
  have hq : in32 0 := in32_0
  refine lv_if_lt hexec hb d ht (fun h => k1 ?_) (fun h => k2 ?_)
  · have h1 := (iI_lt ha (in32_0)).mp (iI_0 ▸ h); omega
  · have h1 := (not_congr (iI_lt ha (in32_0))).mp (iI_0 ▸ h); omega
theorem xr_icmp_ge (hexec : p.tables.exec = Jvm.exec) (hb : c.code = cc) {a b : Int} {off : Int} {tgt : Nat} (d : decode cc pc = .ok (.if_icmp .ge off, 3)) (ht : (pc : Int) + off = (tgt : Int)) (ha : in32 a) (hq : in32 b) (k1 : b ≤ a → W p l e R s m args below meth c H locs cells slots Q (F0 m tgt ls rest)) (k2 : a < b → W p l e R s m args below meth c H locs cells slots Q (F0 m (pc + 3) ls rest)) : W p l e R s m args below meth c H locs cells slots Q (F0 m pc ls (.int (iI b) :: .int (iI a) :: rest)) := by
  refine lv_icmp_ge hexec hb d ht (fun h => k1 ?_) (fun h => k2 ?_)
  · have h1 := (iI_le hq ha).mp h; omega
  · have h1 := (not_congr (iI_le hq ha)).mp h; omega
theorem xr_if_ge (hexec : p.tables.exec = Jvm.exec) (hb : c.code = cc) {a : Int} {off : Int} {tgt : Nat} (d : decode cc pc = .ok (.ifCond .ge off, 3)) (ht : (pc : Int) + off = (tgt : Int)) (ha : in32 a) (k1 : 0 ≤ a → W p l e R s m args below meth c H locs cells slots Q (F0 m tgt ls rest)) (k2 : a < 0 → W p l e R s m args below meth c H locs cells slots Q (F0 m (pc + 3) ls rest)) : W p l e R s m args below meth c H locs cells slots Q (F0 m pc ls (.int (iI a) :: rest)) := by
  have hq : in32 0 := in32_0
  refine lv_if_ge hexec hb d ht (fun h => k1 ?_) (fun h => k2 ?_)
  · have h1 := (iI_le (in32_0) ha).mp (iI_0 ▸ h); omega
  · have h1 := (not_congr (iI_le (in32_0) ha)).mp (iI_0 ▸ h); omega
theorem xr_icmp_gt (hexec : p.tables.exec = Jvm.exec) (hb : c.code = cc) {a b : Int} {off : Int} {tgt : Nat} (d : decode cc pc = .ok (.if_icmp .gt off, 3)) (ht : (pc : Int) + off = (tgt : Int)) (ha : in32 a) (hq : in32 b) (k1 : b < a → W p l e R s m args below meth c H locs cells slots Q (F0 m tgt ls rest)) (k2 : a ≤ b → W p l e R s m args below meth c H locs cells slots Q (F0 m (pc + 3) ls rest)) : W p l e R s m args below meth c H locs cells slots Q (F0 m pc ls (.int (iI b) :: .int (iI a) :: rest)) := by
  refine lv_icmp_gt hexec hb d ht (fun h => k1 ?_) (fun h => k2 ?_)
  · have h1 := (iI_lt hq ha).mp h; omega
  · have h1 := (not_congr (iI_lt hq ha)).mp h; omega
theorem xr_if_gt (hexec : p.tables.exec = Jvm.exec) (hb : c.code = cc) {a : Int} {off : Int} {tgt : Nat} (d : decode cc pc = .ok (.ifCond .gt off, 3)) (ht : (pc : Int) + off = (tgt : Int)) (ha : in32 a) (k1 : 0 < a → W p l e R s m args below meth c H locs cells slots Q (F0 m tgt ls rest)) (k2 : a ≤ 0 → W p l e R s m args below meth c H locs cells slots Q (F0 m (pc + 3) ls rest)) : W p l e R s m args below meth c H locs cells slots Q (F0 m pc ls (.int (iI a) :: rest)) := by
  have hq : in32 0 := in32_0
  refine lv_if_gt hexec hb d ht (fun h => k1 ?_) (fun h => k2 ?_)
  · have h1 := (iI_lt (in32_0) ha).mp (iI_0 ▸ h); omega
  · have h1 := (not_congr (iI_lt (in32_0) ha)).mp (iI_0 ▸ h); omega
theorem xr_icmp_le (hexec : p.tables.exec = Jvm.exec) (hb : c.code = cc) {a b : Int} {off : Int} {tgt : Nat} (d : decode cc pc = .ok (.if_icmp .le off, 3)) (ht : (pc : Int) + off = (tgt : Int)) (ha : in32 a) (hq : in32 b) (k1 : a ≤ b → W p l e R s m args below meth c H locs cells slots Q (F0 m tgt ls rest)) (k2 : b < a → W p l e R s m args below meth c H locs cells slots Q (F0 m (pc + 3) ls rest)) : W p l e R s m args below meth c H locs cells slots Q (F0 m pc ls (.int (iI b) :: .int (iI a) :: rest)) := by
  refine lv_icmp_le hexec hb d ht (fun h => k1 ?_) (fun h => k2 ?_)
  · have h1 := (iI_le ha hq).mp h; omega
  · have h1 := (not_congr (iI_le ha hq)).mp h; omega
theorem xr_if_le (hexec : p.tables.exec = Jvm.exec) (hb : c.code = cc) {a : Int} {off : Int} {tgt : Nat} (d : decode cc pc = .ok (.ifCond .le off, 3)) (ht : (pc : Int) + off = (tgt : Int)) (ha : in32 a) (k1 : a ≤ 0 → W p l e R s m args below meth c H locs cells slots Q (F0 m tgt ls rest)) (k2 : 0 < a → W p l e R s m args below meth c H locs cells slots Q (F0 m (pc + 3) ls rest)) : W p l e R s m args below meth c H locs cells slots Q (F0 m pc ls (.int (iI a) :: rest)) := by
  have hq : in32 0 := in32_0
  refine lv_if_le hexec hb d ht (fun h => k1 ?_) (fun h => k2 ?_)
  · have h1 := (iI_le ha (in32_0)).mp (iI_0 ▸ h); omega
  · have h1 := (not_congr (iI_le ha (in32_0))).mp (iI_0 ▸ h); omega
theorem xr_ifb_eq (hexec : p.tables.exec = Jvm.exec) (hb : c.code = cc) {P : Prop} {off : Int} {tgt : Nat} (d : decode cc pc = .ok (.ifCond .eq off, 3)) (ht : (pc : Int) + off = (tgt : Int)) (k1 : ¬ P → W p l e R s m args below meth c H locs cells slots Q (F0 m tgt ls rest)) (k2 : P → W p l e R s m args below meth c H locs cells slots Q (F0 m (pc + 3) ls rest)) : W p l e R s m args below meth c H locs cells slots Q (F0 m pc ls (.int (iI (bI P)) :: rest)) := by
  have hr := bI_in P
  refine xr_if_eq hexec hb d ht ⟨by omega, by omega⟩ (fun h => k1 ?_) (fun h => k2 ?_)
  · rcases bI_cases P with ⟨q, z⟩ | ⟨q, z⟩
    · first | exact q | (rw [z] at h; exact absurd h (by decide))
    · first | exact q | (rw [z] at h; exact absurd h (by decide))
  · rcases bI_cases P with ⟨q, z⟩ | ⟨q, z⟩
    · first | exact q | (rw [z] at h; exact absurd h (by decide))
    · first | exact q | (rw [z] at h; exact absurd h (by decide))
theorem xr_ifb_ne (hexec : p.tables.exec = Jvm.exec) (hb : c.code = cc) {P : Prop} {off : Int} {tgt : Nat} (d : decode cc pc = .ok (.ifCond .ne off, 3)) (ht : (pc : Int) + off = (tgt : Int)) (k1 : P → W p l e R s m args below meth c H locs cells slots Q (F0 m tgt ls rest)) (k2 : ¬ P → W p l e R s m args below meth c H locs cells slots Q (F0 m (pc + 3) ls rest)) : W p l e R s m args below meth c H locs cells slots Q (F0 m pc ls (.int (iI (bI P)) :: rest)) := by
  have hr := bI_in P
  refine xr_if_ne hexec hb d ht ⟨by omega, by omega⟩ (fun h => k1 ?_) (fun h => k2 ?_)
  · rcases bI_cases P with ⟨q, z⟩ | ⟨q, z⟩
    · first | exact q | (rw [z] at h; exact absurd h (by decide))
    · first | exact q | (rw [z] at h; exact absurd h (by decide))
  · rcases bI_cases P with ⟨q, z⟩ | ⟨q, z⟩
    · first | exact q | (rw [z] at h; exact absurd h (by decide))
    · first | exact q | (rw [z] at h; exact absurd h (by decide))
theorem xr_lcmp (hexec : p.tables.exec = Jvm.exec) (hb : c.code = cc) {a b : Int} (d : decode cc pc = .ok (.lcmp, 1)) (ha : in64 a) (hq : in64 b) (k : ∀ y : Int, (y = -1 ∧ a < b) ∨ (y = 0 ∧ a = b) ∨ (y = 1 ∧ b < a) → W p l e R s m args below meth c H locs cells slots Q (F0 m (pc + 1) ls (.int (iI y) :: rest))) : W p l e R s m args below meth c H locs cells slots Q (F0 m pc ls (.long (lI b) :: .long (lI a) :: rest)) := by
  refine W.lcmp hexec hb d ?_
  have u : ∀ x y : Int64, lg_cmp x y = if y < x then 1 else if x = y then 0 else -1 := fun x y => rfl
  rw [u]
  rcases Int.lt_trichotomy a b with h | h | h
  · have h2 : ¬ lI b < lI a := fun z => by have := (lI_lt hq ha).mp z; omega
    have h3 : ¬ lI a = lI b := fun z => by have := (lI_inj ha hq).mp z; omega
    rw [if_neg h2, if_neg h3]; exact k (-1) (Or.inl ⟨rfl, h⟩)
  · have h2 : ¬ lI b < lI a := fun z => by have := (lI_lt hq ha).mp z; omega
    have h3 : lI a = lI b := by rw [h]
    rw [if_neg h2, if_pos h3]; exact k 0 (Or.inr (Or.inl ⟨rfl, h⟩))
  · have h1 := (lI_lt hq ha).mpr h
    rw [if_pos h1]; exact k 1 (Or.inr (Or.inr ⟨rfl, h⟩))
theorem xr_lcmp_same (hexec : p.tables.exec = Jvm.exec) (hb : c.code = cc) {x : Int64} (d : decode cc pc = .ok (.lcmp, 1)) (k : W p l e R s m args below meth c H locs cells slots Q (F0 m (pc + 1) ls (.int (iI 0) :: rest))) : W p l e R s m args below meth c H locs cells slots Q (F0 m pc ls (.long x :: .long x :: rest)) := by
  refine W.lcmp hexec hb d ?_
  have h2 : ¬ x < x := fun z => by have := Int64.lt_iff_toInt_lt.mp z; omega
  have e : lg_cmp x x = iI 0 := (if_neg h2).trans (if_pos rfl)
  rw [e]; exact k
theorem xr_ifnull (hexec : p.tables.exec = Jvm.exec) (hb : c.code = cc) {f : Int → Nat} {v : Int} {off : Int} {tgt : Nat} (d : decode cc pc = .ok (.ifnull off, 3)) (ht : (pc : Int) + off = (tgt : Int)) (k1 : v < 0 → W p l e R s m args below meth c H locs cells slots Q (F0 m tgt ls rest)) (k2 : 0 ≤ v → W p l e R s m args below meth c H locs cells slots Q (F0 m (pc + 3) ls rest)) : W p l e R s m args below meth c H locs cells slots Q (F0 m pc ls (rv f v :: rest)) := by
  by_cases h : v < 0
  · rw [rv_n h]; exact lv_ifnullN hexec hb d ht (k1 h)
  · rw [rv_p (by omega)]; exact lv_ifnull hexec hb d (k2 (by omega))
theorem xr_ifnonnull (hexec : p.tables.exec = Jvm.exec) (hb : c.code = cc) {f : Int → Nat} {v : Int} {off : Int} {tgt : Nat} (d : decode cc pc = .ok (.ifnonnull off, 3)) (ht : (pc : Int) + off = (tgt : Int)) (k1 : 0 ≤ v → W p l e R s m args below meth c H locs cells slots Q (F0 m tgt ls rest)) (k2 : v < 0 → W p l e R s m args below meth c H locs cells slots Q (F0 m (pc + 3) ls rest)) : W p l e R s m args below meth c H locs cells slots Q (F0 m pc ls (rv f v :: rest)) := by
  by_cases h : v < 0
  · rw [rv_n h]; exact lv_ifnonnullN hexec hb d (k2 h)
  · rw [rv_p (by omega)]; exact lv_ifnonnull hexec hb d ht (k1 (by omega))
theorem xr_aload_n (hexec : p.tables.exec = Jvm.exec) (hb : c.code = cc) {f : Int → Nat} {v : Int} {k : Fin 4} {i : Nat} (d : decode cc pc = .ok (.aload_n k, 1)) (hi : (k : Nat) = i) (hl : ls[i]? = some (.val (rv f v))) (kk : W p l e R s m args below meth c H locs cells slots Q (F0 m (pc + 1) ls (rv f v :: rest))) : W p l e R s m args below meth c H locs cells slots Q (F0 m pc ls rest) := by
  by_cases h : v < 0
  · rw [rv_n h] at hl kk; exact lv_aload_nN hexec hb d hi hl kk
  · rw [rv_p (by omega)] at hl kk; exact lv_aload_n hexec hb d hi hl kk
theorem xr_aload (hexec : p.tables.exec = Jvm.exec) (hb : c.code = cc) {f : Int → Nat} {v : Int} {i : Nat} (d : decode cc pc = .ok (.aload i, 2)) (hl : ls[i]? = some (.val (rv f v))) (kk : W p l e R s m args below meth c H locs cells slots Q (F0 m (pc + 2) ls (rv f v :: rest))) : W p l e R s m args below meth c H locs cells slots Q (F0 m pc ls rest) := by
  by_cases h : v < 0
  · rw [rv_n h] at hl kk; exact lv_aloadN hexec hb d hl kk
  · rw [rv_p (by omega)] at hl kk; exact lv_aload hexec hb d hl kk
theorem xr_astore_n (hexec : p.tables.exec = Jvm.exec) (hb : c.code = cc) {f : Int → Nat} {v : Int} {k : Fin 4} {i nL : Nat} {lv lv' : List (Nat × Value)} (d : decode cc pc = .ok (.astore_n k, 1)) (hi : (k : Nat) = i) (h : lv_has ls nL lv) (hn : i < nL) (hl : (i, rv f v) :: lv.filter (fun q => !(q.1 == i) && !(q.1 + 1 == i && q.2.category == 2)) = lv') (kk : ∀ ls' : Array Slot, lv_has ls' nL lv' → W p l e R s m args below meth c H locs cells slots Q (F0 m (pc + 1) ls' rest)) : W p l e R s m args below meth c H locs cells slots Q (F0 m pc ls (rv f v :: rest)) := by
  by_cases hv : v < 0
  · rw [rv_n hv] at hl ⊢; exact lv_astore_nN hexec hb d hi h hn hl kk
  · rw [rv_p (by omega)] at hl ⊢; exact lv_astore_n hexec hb d hi h hn hl kk
theorem xr_astore (hexec : p.tables.exec = Jvm.exec) (hb : c.code = cc) {f : Int → Nat} {v : Int} {i nL : Nat} {lv lv' : List (Nat × Value)} (d : decode cc pc = .ok (.astore i, 2)) (h : lv_has ls nL lv) (hn : i < nL) (hl : (i, rv f v) :: lv.filter (fun q => !(q.1 == i) && !(q.1 + 1 == i && q.2.category == 2)) = lv') (kk : ∀ ls' : Array Slot, lv_has ls' nL lv' → W p l e R s m args below meth c H locs cells slots Q (F0 m (pc + 2) ls' rest)) : W p l e R s m args below meth c H locs cells slots Q (F0 m pc ls (rv f v :: rest)) := by
  by_cases hv : v < 0
  · rw [rv_n hv] at hl ⊢; exact lv_astoreN hexec hb d h hn hl kk
  · rw [rv_p (by omega)] at hl ⊢; exact lv_astore hexec hb d h hn hl kk
end XB
end
section
/-! a world whose cells bear a kind and a number: dm says which there are, ad where they lie, cell what they hold -/
def wR (D : va_G) (cl : List vw_C) (A : Nat → Prop) (dm : Nat → Int → Prop) (ad : Nat → Int → Nat) (cell : Nat → Int → va_E) (H : Heap) : Prop :=
  ∃ dl : List (Nat × Int), dl.Nodup ∧ (∀ k j, (k, j) ∈ dl ↔ dm k j) ∧ va_P D cl (dl.map fun q => (ad q.1 q.2, cell q.1 q.2)) H ∧ va_D A (dl.map fun q => (ad q.1 q.2, cell q.1 q.2))
theorem wr_use {D : va_G} {cl : List vw_C} {A : Nat → Prop} {dm : Nat → Int → Prop} {ad : Nat → Int → Nat} {cell : Nat → Int → va_E} {H : Heap} (hR : wR D cl A dm ad cell H) {k : Nat} {j : Int} (hd : dm k j) :
    ∃ (ws : va_W) (q0 : Nat), va_P D cl ws H ∧ va_D A ws ∧ ws[q0]? = some (ad k j, cell k j) ∧ (∀ (k2 : Nat) (j2 : Int), dm k2 j2 → ∃ q2 : Nat, ws[q2]? = some (ad k2 j2, cell k2 j2)) ∧
      ∀ (H1 : Heap) (e' : va_E), va_P D cl (ws.set q0 (ad k j, e')) H1 → va_D A (ws.set q0 (ad k j, e')) → ∀ cell' : Nat → Int → va_E, (∀ k' j', dm k' j' → cell' k' j' = if k' = k ∧ j' = j then e' else cell k' j') → wR D cl A dm ad cell' H1 := by
  obtain ⟨dl, hn, hm, hP, hD⟩ := hR
  obtain ⟨q0, hq⟩ := List.getElem?_of_mem ((hm k j).mpr hd)
  refine ⟨_, q0, hP, hD, by rw [List.getElem?_map, hq]; rfl, ?_, ?_⟩
  · intro k2 j2 h2
    obtain ⟨q2, hq2⟩ := List.getElem?_of_mem ((hm k2 j2).mpr h2)
    exact ⟨q2, by rw [List.getElem?_map, hq2]; rfl⟩
  · intro H1 e' h1 h2 cell' hc
    have hl : q0 < dl.length := (List.getElem?_eq_some_iff.mp hq).1
    have e : (dl.map fun q => (ad q.1 q.2, cell q.1 q.2)).set q0 (ad k j, e') = dl.map fun q => (ad q.1 q.2, cell' q.1 q.2) := by
      apply List.ext_getElem?
      intro i
      by_cases hi : i = q0
      · subst hi
        rw [List.getElem?_set_self (by rw [List.length_map]; exact hl), List.getElem?_map, hq]
        show _ = some (ad k j, cell' k j)
        rw [hc k j hd, if_pos ⟨rfl, rfl⟩]
      · rw [List.getElem?_set_ne (fun z => hi z.symm), List.getElem?_map, List.getElem?_map]
        cases hx : dl[i]? with
        | none => rfl
        | some p =>
          have hp : dm p.1 p.2 := (hm p.1 p.2).mp (List.mem_of_getElem? hx)
          have hne : ¬ (p.1 = k ∧ p.2 = j) := by
            rintro ⟨z1, z2⟩
            have hp2 : p = (k, j) := by rw [← z1, ← z2]
            exact hi ((List.getElem?_inj (List.getElem?_eq_some_iff.mp hx).1 hn).mp (by rw [hx, hq, hp2]))
          show some (ad p.1 p.2, cell p.1 p.2) = some (ad p.1 p.2, cell' p.1 p.2)
          rw [hc p.1 p.2 hp, if_neg hne]
    rw [e] at h1 h2
    exact ⟨dl, hn, hm, h1, h2⟩
/-- the same cells, otherwise told -/
theorem wr_to {D : va_G} {cl : List vw_C} {A : Nat → Prop} {dm dm' : Nat → Int → Prop} {ad ad' : Nat → Int → Nat} {cell cell' : Nat → Int → va_E} {H : Heap} (hR : wR D cl A dm ad cell H) (hm : ∀ k j, dm' k j ↔ dm k j) (h : ∀ k j, dm k j → ad' k j = ad k j ∧ cell' k j = cell k j) : wR D cl A dm' ad' cell' H := by
  obtain ⟨dl, hn, hm0, hP, hD⟩ := hR
  have e : (dl.map fun q => (ad' q.1 q.2, cell' q.1 q.2)) = dl.map fun q => (ad q.1 q.2, cell q.1 q.2) := by
    apply List.map_congr_left
    intro p hp
    obtain ⟨h1, h2⟩ := h p.1 p.2 ((hm0 p.1 p.2).mp hp)
    rw [h1, h2]
  exact ⟨dl, hn, fun k j => (hm0 k j).trans (hm k j).symm, by rw [e]; exact hP, by rw [e]; exact hD⟩
/-- where a cell lies, and that cells are apart -/
theorem wr_lt {D : va_G} {cl : List vw_C} {A : Nat → Prop} {dm : Nat → Int → Prop} {ad : Nat → Int → Nat} {cell : Nat → Int → va_E} {H : Heap} (hR : wR D cl A dm ad cell H) {k : Nat} {j : Int} (hd : dm k j) : ad k j < H.size ∧ A (ad k j) := by
  obtain ⟨ws, q0, hP, hD, h0, -⟩ := wr_use hR hd
  exact ⟨(hP q0 _ h0).lt, hD.2 q0 _ h0⟩
theorem wr_inj {D : va_G} {cl : List vw_C} {A : Nat → Prop} {dm : Nat → Int → Prop} {ad : Nat → Int → Nat} {cell : Nat → Int → va_E} {H : Heap} (hR : wR D cl A dm ad cell H) {k k' : Nat} {j j' : Int} (hd : dm k j) (hd' : dm k' j') (h : ad k j = ad k' j') : k = k' ∧ j = j' := by
  obtain ⟨dl, hn, hm, hP, hD⟩ := hR
  obtain ⟨q0, hq⟩ := List.getElem?_of_mem ((hm k j).mpr hd)
  obtain ⟨q1, hq1⟩ := List.getElem?_of_mem ((hm k' j').mpr hd')
  have e := hD.1 q0 q1 (ad k j, cell k j) (ad k' j', cell k' j') (by rw [List.getElem?_map, hq]; rfl) (by rw [List.getElem?_map, hq1]; rfl) h
  subst e
  have := Option.some.inj (hq.symm.trans hq1)
  exact ⟨congrArg Prod.fst this, congrArg Prod.snd this⟩
theorem wr_eq {D : va_G} {cl : List vw_C} {A : Nat → Prop} {dm : Nat → Int → Prop} {ad : Nat → Int → Nat} {cell : Nat → Int → va_E} {H : Heap} (hR : wR D cl A dm ad cell H) {k : Nat} {a b : Int} (ha : 0 ≤ a → dm k a) (hb : 0 ≤ b → dm k b) : ro (ad k) a = ro (ad k) b ↔ (a = b ∨ (a < 0 ∧ b < 0)) := by
  unfold ro
  by_cases h1 : a < 0 <;> by_cases h2 : b < 0
  · simp [h1, h2]
  · simp [h1, h2]; omega
  · simp [h1, h2]; omega
  · rw [if_neg h1, if_neg h2]
    refine ⟨fun h => Or.inl (wr_inj hR (ha (by omega)) (hb (by omega)) (Option.some.inj h)).2, fun h => ?_⟩
    rcases h with h | ⟨h, -⟩
    · rw [h]
    · exact absurd h h1
/-- what isn't the world's own has moved -/
theorem wr_kept {D : va_G} {cl : List vw_C} {A : Nat → Prop} {dm : Nat → Int → Prop} {ad : Nat → Int → Nat} {cell : Nat → Int → va_E} {H H1 : Heap} (hR : wR D cl A dm ad cell H) (hq : ∀ k j, dm k j → H1[ad k j]? = H[ad k j]?) : wR D cl A dm ad cell H1 := by
  obtain ⟨dl, hn, hm, hP, hD⟩ := hR
  refine ⟨dl, hn, hm, hP.kept fun i q hi => ?_, hD⟩
  rw [List.getElem?_map] at hi
  cases hx : dl[i]? with
  | none => rw [hx] at hi; cases hi
  | some p =>
    rw [hx] at hi
    cases hi
    exact hq p.1 p.2 ((hm p.1 p.2).mp (List.mem_of_getElem? hx))
/-- a new cell joins -/
theorem wr_push {D : va_G} {cl : List vw_C} {A : Nat → Prop} {dm dm' : Nat → Int → Prop} {ad ad' : Nat → Int → Nat} {cell cell' : Nat → Int → va_E} {H : Heap} (hR : wR D cl A dm ad cell H) {k : Nat} {j : Int} {q : Nat} {e : va_E} (hn : ¬ dm k j) (hm : ∀ k' j', dm' k' j' ↔ (dm k' j' ∨ (k' = k ∧ j' = j))) (hold : ∀ k' j', dm k' j' → ad' k' j' = ad k' j' ∧ cell' k' j' = cell k' j') (h1 : ad' k j = q) (h2 : cell' k j = e) (hq : ∀ k' j', dm k' j' → ad k' j' ≠ q) (hA : A q) (he : va_at D cl (q, e) H) : wR D cl A dm' ad' cell' H := by
  obtain ⟨dl, hnd, hm0, hP, hD⟩ := hR
  have ee : (dl.map fun p => (ad' p.1 p.2, cell' p.1 p.2)) = dl.map fun p => (ad p.1 p.2, cell p.1 p.2) := by
    apply List.map_congr_left
    intro p hp
    obtain ⟨z1, z2⟩ := hold p.1 p.2 ((hm0 p.1 p.2).mp hp)
    rw [z1, z2]
  have e2 : ((dl ++ [(k, j)]).map fun p => (ad' p.1 p.2, cell' p.1 p.2)) = (dl.map fun p => (ad p.1 p.2, cell p.1 p.2)) ++ [(q, e)] := by
    rw [List.map_append, ee]
    show _ ++ [(ad' k j, cell' k j)] = _
    rw [h1, h2]
  refine ⟨dl ++ [(k, j)], ?_, ?_, ?_, ?_⟩
  · rw [List.nodup_append]
    refine ⟨hnd, by simp, fun a ha b hb => ?_⟩
    rw [List.mem_singleton.mp hb]
    intro z
    rw [z] at ha
    exact hn ((hm0 k j).mp ha)
  · intro k' j'
    rw [List.mem_append, hm0, hm, List.mem_singleton, Prod.mk.injEq]
  · rw [e2]
    exact hP.app (fun i p hi => by
      cases i with
      | zero => cases hi; exact he
      | succ i => simp at hi)
  · rw [e2]
    have h00 : ∀ (i : Nat) (p : Nat × va_E), [(q, e)][i]? = some p → i = 0 ∧ p = (q, e) := by
      intro i p h
      cases i with
      | zero => cases h; exact ⟨rfl, rfl⟩
      | succ i => simp at h
    refine hD.app ⟨fun i i2 p p2 hi hi2 _ => ?_, fun i p hi => ?_⟩ (fun i i2 p p2 hi hi2 => ?_)
    · rw [(h00 i p hi).1, (h00 i2 p2 hi2).1]
    · rw [(h00 i p hi).2]; exact hA
    · rw [(h00 i2 p2 hi2).2]
      rw [List.getElem?_map] at hi
      cases hx : dl[i]? with
      | none => rw [hx] at hi; cases hi
      | some p0 =>
        rw [hx] at hi
        cases hi
        exact hq p0.1 p0.2 ((hm0 p0.1 p0.2).mp (List.mem_of_getElem? hx))
section WR
variable {p : Program} {l : Launch} {e : Env} {R : Room} {s : State} {m : MethodId} {args : Array Value} {below : List Frame} {meth : Method} {c : Code} {H H0 : Heap} {locs : List Loc} {cells slots : Nat} {Q : State → Prop}
variable {cc : ByteArray} {pc : Nat} {ls : Array Slot} {rest : List Value} {D : va_G} {cl : List vw_C} {A : Nat → Prop} {tys : List (ClassId × FieldType)} {dm : Nat → Int → Prop} {ad : Nat → Int → Nat} {cell : Nat → Int → va_E} {k : Nat} {j : Int}
theorem wr_get (hexec : p.tables.exec = Jvm.exec) (hb : c.code = cc) {own C : String} {T : u_T} {N ci index : Nat} (hw : ∀ w ∈ u_ws C T N, w.before args s = true) (hown : s.vm.findClass own = some m.cls) (hK : va_K D cl tys s) (hR : wR D cl A dm ad cell H) (hd : dm k j) {fs : List Value} (he : cell k j = .inr (ci, fs)) (hc : cl[ci]? = some (C, T, N)) (i : Nat) (hi : i < N) (hlink : (Cond.fieldLink own index (T i).1 (T i).2.1 (T i).2.2.1).before args s = true) {v : Value} (hv : fs[i]? = some v) (hdg : decode cc pc = .ok (.getfield index, 3))
    (kk : W p l e R s m args below meth c H locs cells slots Q (F0 m (pc + 3) ls (v :: rest))) : W p l e R s m args below meth c H locs cells slots Q (F0 m pc ls (.ref (ad k j) :: rest)) := by
  obtain ⟨ws, q0, hP, hD, h0, -⟩ := wr_use hR hd
  rw [he] at h0
  exact va_get hexec hb hw (fun _ h => h) hown hK hP q0 h0 hc i hi hlink (fun _ h => h) hv hdg kk
theorem wr_put (hexec : p.tables.exec = Jvm.exec) (hb : c.code = cc) {own C : String} {T : u_T} {N ci index : Nat} (hw : ∀ w ∈ u_ws C T N, w.before args s = true) (ty0 : Nat → FieldType) (hty : ∀ k, k < N → parseFieldDescriptor (T k).2.2.1 = some (ty0 k)) (hnm : ∀ a, a < N → ∀ b, b < N → a ≠ b → (T a).2.1 ≠ (T b).2.1) (hown : s.vm.findClass own = some m.cls) (hK : va_K D cl tys s) (hR : wR D cl A dm ad cell H) (hS : va_S A H0 H locs) (hd : dm k j) {fs : List Value} (he : cell k j = .inr (ci, fs)) (hc : cl[ci]? = some (C, T, N)) (i : Nat) (hi : i < N) (hlink : (Cond.fieldLink own index (T i).1 (T i).2.1 (T i).2.2.1).before args s = true) (hfin : (T i).2.2.2 = false) {ty : FieldType} {v : Value} (hp : parseFieldDescriptor (T i).2.2.1 = some ty) (hn : narrow ty v = v) (hfit : fits ty v = true) (hl : i < fs.length) {cell' : Nat → Int → va_E} (hcell : ∀ k' j', dm k' j' → cell' k' j' = if k' = k ∧ j' = j then .inr (ci, fs.set i v) else cell k' j')
    (hdg : decode cc pc = .ok (.putfield index, 3)) (kk : ∀ (H1 : Heap) (locs1 : List Loc), wR D cl A dm ad cell' H1 → va_S A H0 H1 locs1 → W p l e R s m args below meth c H1 locs1 cells slots Q (F0 m (pc + 3) ls rest)) : W p l e R s m args below meth c H locs cells slots Q (F0 m pc ls (v :: .ref (ad k j) :: rest)) := by
  obtain ⟨ws, q0, hP, hD, h0, -, hset⟩ := wr_use hR hd
  rw [he] at h0
  exact va_put hexec hb hw (fun _ h => h) ty0 hty hnm hown hK hP hD hS q0 h0 hc i hi hlink (fun _ h => h) hfin hp hn hfit hl hdg (fun H1 locs1 h1 h2 h3 => kk H1 locs1 (hset H1 _ h1 h2 cell' hcell) h3)
theorem wr_alen (hexec : p.tables.exec = Jvm.exec) (hb : c.code = cc) (hK : va_K D cl tys s) (hR : wR D cl A dm ad cell H) (hd : dm k j) {cA : ClassId} {x : vp_A} (he : cell k j = .inl (cA, x)) (t0 : Nat) {ty : FieldType} (ht : tys[t0]? = some (cA, ty)) {n : Int} (hn : iI (x.1 : Int) = iI n) (hdg : decode cc pc = .ok (.arraylength, 1))
    (kk : W p l e R s m args below meth c H locs cells slots Q (F0 m (pc + 1) ls (.int (iI n) :: rest))) : W p l e R s m args below meth c H locs cells slots Q (F0 m pc ls (.ref (ad k j) :: rest)) := by
  obtain ⟨ws, q0, hP, hD, h0, -⟩ := wr_use hR hd
  rw [he] at h0
  exact va_alen hexec hb hK hP q0 t0 h0 ht ((show Int32.ofNat x.1 = iI (x.1 : Int) from Int32.ofInt_eq_ofNat.symm).trans hn) hdg kk
theorem wr_iald (hexec : p.tables.exec = Jvm.exec) (hb : c.code = cc) (hK : va_K D cl tys s) (hR : wR D cl A dm ad cell H) (hd : dm k j) {cA : ClassId} {n : Nat} {f : Nat → Int32} (he : cell k j = .inl (cA, n, .inl f)) (t0 : Nat) (ht : tys[t0]? = some (cA, .int)) {i : Int} (hi : 0 ≤ i ∧ i < n) (hn : n < 2147483648) {v : Int} (hv : f i.toNat = iI v) (hdg : decode cc pc = .ok (.iaload, 1))
    (kk : W p l e R s m args below meth c H locs cells slots Q (F0 m (pc + 1) ls (.int (iI v) :: rest))) : W p l e R s m args below meth c H locs cells slots Q (F0 m pc ls (.int (iI i) :: .ref (ad k j) :: rest)) := by
  obtain ⟨ws, q0, hP, hD, h0, -⟩ := wr_use hR hd
  rw [he] at h0
  refine va_iald hexec hb hK hP q0 t0 h0 ht (iI_vin hi hn) hdg ?_
  rw [iI_clamp ⟨by omega, by omega⟩, hv]
  exact kk
theorem wr_zald (hexec : p.tables.exec = Jvm.exec) (hb : c.code = cc) (hK : va_K D cl tys s) (hR : wR D cl A dm ad cell H) (hd : dm k j) {cA : ClassId} {n : Nat} {f : Nat → Int32} (he : cell k j = .inl (cA, n, .inl f)) (t0 : Nat) (ht : tys[t0]? = some (cA, .boolean)) {i : Int} (hi : 0 ≤ i ∧ i < n) (hn : n < 2147483648) {v : Int} (hv : f i.toNat = iI v) (hdg : decode cc pc = .ok (.baload, 1))
    (kk : W p l e R s m args below meth c H locs cells slots Q (F0 m (pc + 1) ls (.int (iI v) :: rest))) : W p l e R s m args below meth c H locs cells slots Q (F0 m pc ls (.int (iI i) :: .ref (ad k j) :: rest)) := by
  obtain ⟨ws, q0, hP, hD, h0, -⟩ := wr_use hR hd
  rw [he] at h0
  refine va_zald hexec hb hK hP q0 t0 h0 ht (iI_vin hi hn) hdg ?_
  rw [iI_clamp ⟨by omega, by omega⟩, hv]
  exact kk
theorem wr_lald (hexec : p.tables.exec = Jvm.exec) (hb : c.code = cc) (hK : va_K D cl tys s) (hR : wR D cl A dm ad cell H) (hd : dm k j) {cA : ClassId} {n : Nat} {f : Nat → Int64} (he : cell k j = .inl (cA, n, .inr (.inl f))) (t0 : Nat) (ht : tys[t0]? = some (cA, .long)) {i : Int} (hi : 0 ≤ i ∧ i < n) (hn : n < 2147483648) {v : Int} (hv : f i.toNat = lI v) (hdg : decode cc pc = .ok (.laload, 1))
    (kk : W p l e R s m args below meth c H locs cells slots Q (F0 m (pc + 1) ls (.long (lI v) :: rest))) : W p l e R s m args below meth c H locs cells slots Q (F0 m pc ls (.int (iI i) :: .ref (ad k j) :: rest)) := by
  obtain ⟨ws, q0, hP, hD, h0, -⟩ := wr_use hR hd
  rw [he] at h0
  refine va_lald hexec hb hK hP q0 t0 h0 ht (iI_vin hi hn) hdg ?_
  rw [iI_clamp ⟨by omega, by omega⟩, hv]
  exact kk
theorem wr_aald (hexec : p.tables.exec = Jvm.exec) (hb : c.code = cc) (hK : va_K D cl tys s) (hR : wR D cl A dm ad cell H) (hd : dm k j) {cA : ClassId} {C : String} {n : Nat} {f : Nat → Option Nat} (he : cell k j = .inl (cA, n, .inr (.inr (.inr (.inr f))))) (t0 : Nat) (ht : tys[t0]? = some (cA, .object C)) {i : Int} (hi : 0 ≤ i ∧ i < n) (hn : n < 2147483648) {g : Int → Nat} {v : Int} (hv : f i.toNat = ro g v) (hdg : decode cc pc = .ok (.aaload, 1))
    (kk : W p l e R s m args below meth c H locs cells slots Q (F0 m (pc + 1) ls (rv g v :: rest))) : W p l e R s m args below meth c H locs cells slots Q (F0 m pc ls (.int (iI i) :: .ref (ad k j) :: rest)) := by
  obtain ⟨ws, q0, hP, hD, h0, -⟩ := wr_use hR hd
  rw [he] at h0
  refine va_aldq hexec hb hK hP q0 t0 h0 ht (iI_vin hi hn) hdg ?_
  rw [iI_clamp ⟨by omega, by omega⟩, hv]
  exact kk
theorem wr_iast (hexec : p.tables.exec = Jvm.exec) (hb : c.code = cc) (hK : va_K D cl tys s) (hR : wR D cl A dm ad cell H) (hS : va_S A H0 H locs) (hd : dm k j) {cA : ClassId} {n : Nat} {f : Nat → Int32} (he : cell k j = .inl (cA, n, .inl f)) (t0 : Nat) (ht : tys[t0]? = some (cA, .int)) {i : Int} (hi : 0 ≤ i ∧ i < n) (hn : n < 2147483648) {v : Int} {cell' : Nat → Int → va_E} (hcell : ∀ k' j', dm k' j' → cell' k' j' = if k' = k ∧ j' = j then .inl (cA, n, .inl (upd f i.toNat (iI v))) else cell k' j') (hdg : decode cc pc = .ok (.iastore, 1))
    (kk : ∀ (H1 : Heap) (locs1 : List Loc), wR D cl A dm ad cell' H1 → va_S A H0 H1 locs1 → W p l e R s m args below meth c H1 locs1 cells slots Q (F0 m (pc + 1) ls rest)) : W p l e R s m args below meth c H locs cells slots Q (F0 m pc ls (.int (iI v) :: .int (iI i) :: .ref (ad k j) :: rest)) := by
  obtain ⟨ws, q0, hP, hD, h0, -, hset⟩ := wr_use hR hd
  rw [he] at h0
  refine va_iast hexec hb hK hP hD hS q0 t0 h0 ht (iI_vin hi hn) hdg (fun H1 locs1 h1 h2 h3 => ?_)
  rw [iI_clamp ⟨by omega, by omega⟩] at h1 h2
  exact kk H1 locs1 (hset H1 _ h1 h2 cell' hcell) h3
theorem wr_zast (hexec : p.tables.exec = Jvm.exec) (hb : c.code = cc) (hK : va_K D cl tys s) (hR : wR D cl A dm ad cell H) (hS : va_S A H0 H locs) (hd : dm k j) {cA : ClassId} {n : Nat} {f : Nat → Int32} (he : cell k j = .inl (cA, n, .inl f)) (t0 : Nat) (ht : tys[t0]? = some (cA, .boolean)) {i : Int} (hi : 0 ≤ i ∧ i < n) (hn : n < 2147483648) {v : Int} (hv : 0 ≤ v ∧ v ≤ 1) {cell' : Nat → Int → va_E} (hcell : ∀ k' j', dm k' j' → cell' k' j' = if k' = k ∧ j' = j then .inl (cA, n, .inl (upd f i.toNat (iI v))) else cell k' j') (hdg : decode cc pc = .ok (.bastore, 1))
    (kk : ∀ (H1 : Heap) (locs1 : List Loc), wR D cl A dm ad cell' H1 → va_S A H0 H1 locs1 → W p l e R s m args below meth c H1 locs1 cells slots Q (F0 m (pc + 1) ls rest)) : W p l e R s m args below meth c H locs cells slots Q (F0 m pc ls (.int (iI v) :: .int (iI i) :: .ref (ad k j) :: rest)) := by
  obtain ⟨ws, q0, hP, hD, h0, -, hset⟩ := wr_use hR hd
  rw [he] at h0
  have e1 : vp_nar .boolean (iI v) = iI v := by
    rcases (show v = 0 ∨ v = 1 by omega) with z | z <;> subst z <;> rfl
  refine va_zast hexec hb hK hP hD hS q0 t0 h0 ht (iI_vin hi hn) hdg (fun H1 locs1 h1 h2 h3 => ?_)
  rw [iI_clamp ⟨by omega, by omega⟩, e1] at h1 h2
  exact kk H1 locs1 (hset H1 _ h1 h2 cell' hcell) h3
theorem wr_last (hexec : p.tables.exec = Jvm.exec) (hb : c.code = cc) (hK : va_K D cl tys s) (hR : wR D cl A dm ad cell H) (hS : va_S A H0 H locs) (hd : dm k j) {cA : ClassId} {n : Nat} {f : Nat → Int64} (he : cell k j = .inl (cA, n, .inr (.inl f))) (t0 : Nat) (ht : tys[t0]? = some (cA, .long)) {i : Int} (hi : 0 ≤ i ∧ i < n) (hn : n < 2147483648) {v : Int} {cell' : Nat → Int → va_E} (hcell : ∀ k' j', dm k' j' → cell' k' j' = if k' = k ∧ j' = j then .inl (cA, n, .inr (.inl (vp_updL f i.toNat (lI v)))) else cell k' j') (hdg : decode cc pc = .ok (.lastore, 1))
    (kk : ∀ (H1 : Heap) (locs1 : List Loc), wR D cl A dm ad cell' H1 → va_S A H0 H1 locs1 → W p l e R s m args below meth c H1 locs1 cells slots Q (F0 m (pc + 1) ls rest)) : W p l e R s m args below meth c H locs cells slots Q (F0 m pc ls (.long (lI v) :: .int (iI i) :: .ref (ad k j) :: rest)) := by
  obtain ⟨ws, q0, hP, hD, h0, -, hset⟩ := wr_use hR hd
  rw [he] at h0
  refine va_last hexec hb hK hP hD hS q0 t0 h0 ht (iI_vin hi hn) hdg (fun H1 locs1 h1 h2 h3 => ?_)
  rw [iI_clamp ⟨by omega, by omega⟩] at h1 h2
  exact kk H1 locs1 (hset H1 _ h1 h2 cell' hcell) h3
theorem wr_aast (hexec : p.tables.exec = Jvm.exec) (hb : c.code = cc) (hK : va_K D cl tys s) (hR : wR D cl A dm ad cell H) (hS : va_S A H0 H locs) (hd : dm k j) {cA : ClassId} {n : Nat} {f : Nat → Option Nat} (he : cell k j = .inl (cA, n, .inr (.inr (.inr (.inr f))))) {r : vw_C} (t0 : Nat) (ht : tys[t0]? = some (cA, .object r.1)) {k2 : Nat} {j2 : Int} (hd2 : dm k2 j2) {ci : Nat} {vs : List Value} (he2 : cell k2 j2 = .inr (ci, vs)) (hc : cl[ci]? = some r) {i : Int} (hi : 0 ≤ i ∧ i < n) (hn : n < 2147483648) {cell' : Nat → Int → va_E} (hcell : ∀ k' j', dm k' j' → cell' k' j' = if k' = k ∧ j' = j then .inl (cA, n, .inr (.inr (.inr (.inr (va_up f i.toNat (some (ad k2 j2))))))) else cell k' j') (hdg : decode cc pc = .ok (.aastore, 1))
    (kk : ∀ (H1 : Heap) (locs1 : List Loc), wR D cl A dm ad cell' H1 → va_S A H0 H1 locs1 → W p l e R s m args below meth c H1 locs1 cells slots Q (F0 m (pc + 1) ls rest)) : W p l e R s m args below meth c H locs cells slots Q (F0 m pc ls (.ref (ad k2 j2) :: .int (iI i) :: .ref (ad k j) :: rest)) := by
  obtain ⟨ws, q0, hP, hD, h0, hall, hset⟩ := wr_use hR hd
  obtain ⟨q2, h2⟩ := hall k2 j2 hd2
  rw [he] at h0
  rw [he2] at h2
  refine va_astq hexec hb hK hP hD hS q0 t0 q2 ci h0 ht h2 hc (iI_vin hi hn) hdg (fun H1 locs1 h1 h2 h3 => ?_)
  rw [iI_clamp ⟨by omega, by omega⟩] at h1 h2
  exact kk H1 locs1 (hset H1 _ h1 h2 cell' hcell) h3
end WR
end
section
/-! the class: its cells out of a table of whole numbers -/
def st (sg : Nat → Int → Int) (f : Nat) (j v : Int) : Nat → Int → Int := fun f' j' => if f' = f ∧ j' = j then v else sg f' j'
theorem st_s {sg : Nat → Int → Int} {f : Nat} {j v : Int} : st sg f j v f j = v := if_pos ⟨rfl, rfl⟩
theorem st_f {sg : Nat → Int → Int} {f g : Nat} {j k v : Int} (h : g ≠ f) : st sg f j v g k = sg g k := if_neg fun z => h z.1
theorem st_j {sg : Nat → Int → Int} {f g : Nat} {j k v : Int} (h : k ≠ j) : st sg f j v g k = sg g k := if_neg fun z => h z.2
def tysC (cy : Nat → ClassId) : List (ClassId × FieldType) := [(cy 6, .int), (cy 7, .long), (cy 8, .boolean), (cy 9, .object "Takinghall$Interest"), (cy 10, .object "Takinghall$Plot"), (cy 11, .object "Takinghall$Price"), (cy 12, .object "Takinghall$Scheme")]
def dmC (sg : Nat → Int → Int) (k : Nat) (j : Int) : Prop := 0 ≤ j ∧ j < sg (700 + k) 0
abbrev fsC0 (ad : Nat → Int → Nat) (sg : Nat → Int → Int) (j : Int) : List Value := [.int (iI (sg 100 j)), .int (iI (sg 101 j)), rv (ad 1) (sg 102 j), .int (iI (sg 103 j)), .int (iI (sg 104 j)), .int (iI (sg 105 j)), .int (iI (sg 106 j)), .int (iI (sg 107 j)), .int (iI (sg 108 j)), .int (iI (sg 109 j)), .long (lI (sg 110 j)), .long (lI (sg 111 j)), .int (iI (sg 112 j)), .long (lI (sg 113 j)), .int (iI (sg 114 j))]
abbrev fsC1 (ad : Nat → Int → Nat) (sg : Nat → Int → Int) (j : Int) : List Value := [.int (iI (sg 200 j)), .int (iI (sg 201 j)), .int (iI (sg 202 j)), .int (iI (sg 203 j)), rv (ad 3) (sg 204 j), .int (iI (sg 205 j)), .int (iI (sg 206 j)), rv (ad 2) (sg 207 j), .int (iI (sg 208 j)), rv (ad 0) (sg 209 j), .int (iI (sg 210 j))]
abbrev fsC2 (ad : Nat → Int → Nat) (sg : Nat → Int → Int) (j : Int) : List Value := [.int (iI (sg 300 j)), .int (iI (sg 301 j)), rv (ad 2) (sg 302 j)]
abbrev fsC3 (ad : Nat → Int → Nat) (sg : Nat → Int → Int) (j : Int) : List Value := [.int (iI (sg 400 j)), .int (iI (sg 401 j)), .int (iI (sg 402 j)), .int (iI (sg 403 j)), .int (iI (sg 404 j)), .int (iI (sg 405 j))]
abbrev fsC4 (ad : Nat → Int → Nat) (sg : Nat → Int → Int) (j : Int) : List Value := [rv (ad 10) (sg 500 j), rv (ad 11) (sg 501 j), rv (ad 9) (sg 502 j), .int (iI (sg 503 j)), rv (ad 12) (sg 504 j), .int (iI (sg 505 j)), .int (iI (sg 506 j)), .long (lI (sg 507 j)), .long (lI (sg 508 j)), .long (lI (sg 509 j)), .long (lI (sg 510 j)), .long (lI (sg 511 j))]
def cellC (cy : Nat → ClassId) (ad : Nat → Int → Nat) (sg : Nat → Int → Int) (k : Nat) (j : Int) : va_E := match k with
  | 0 => .inr (0, fsC0 ad sg j)
  | 1 => .inr (1, fsC1 ad sg j)
  | 2 => .inr (2, fsC2 ad sg j)
  | 3 => .inr (3, fsC3 ad sg j)
  | 4 => .inr (4, fsC4 ad sg j)
  | 9 => .inl (cy 9, 24, .inr (.inr (.inr (.inr (fun q => ro (ad 0) (sg 600 (q : Int)))))))
  | 10 => .inl (cy 10, 36, .inr (.inr (.inr (.inr (fun q => ro (ad 1) (sg 601 (q : Int)))))))
  | 11 => .inl (cy 11, 3, .inr (.inr (.inr (.inr (fun q => ro (ad 2) (sg 602 (q : Int)))))))
  | 12 => .inl (cy 12, 4, .inr (.inr (.inr (.inr (fun q => ro (ad 3) (sg 603 (q : Int)))))))
  | _ => .inr (0, [])
abbrev RC (D : va_G) (cy : Nat → ClassId) (A : Nat → Prop) (ad : Nat → Int → Nat) (sg : Nat → Int → Int) (H : Heap) : Prop := wR D vwCl A (dmC sg) ad (cellC cy ad sg) H
abbrev KC (D : va_G) (cy : Nat → ClassId) (U : State) : Prop := va_K D vwCl (tysC cy) U
theorem dm_st {sg : Nat → Int → Int} {f : Nat} {j v : Int} (hf : f < 700) (k : Nat) (i : Int) : dmC (st sg f j v) k i ↔ dmC sg k i := by unfold dmC; rw [st_f (by omega)]
theorem cu_107 (cy : Nat → ClassId) (ad : Nat → Int → Nat) (sg : Nat → Int → Int) (j v : Int) : ∀ k' j', dmC sg k' j' → cellC cy ad (st sg 107 j v) k' j' = if k' = 0 ∧ j' = j then .inr (0, (fsC0 ad sg j).set 7 (.int (iI (v)))) else cellC cy ad sg k' j' := by
  intro k' j' _
  by_cases hk : k' = 0
  · subst hk
    by_cases hj : j' = j
    · subst hj; simp [cellC, st]
    · simp [cellC, st, hj]
  · rw [if_neg (fun z => hk z.1)]
    unfold cellC
    split <;> first | (exact absurd rfl hk) | simp [st]
theorem cu_108 (cy : Nat → ClassId) (ad : Nat → Int → Nat) (sg : Nat → Int → Int) (j v : Int) : ∀ k' j', dmC sg k' j' → cellC cy ad (st sg 108 j v) k' j' = if k' = 0 ∧ j' = j then .inr (0, (fsC0 ad sg j).set 8 (.int (iI (v)))) else cellC cy ad sg k' j' := by
  intro k' j' _
  by_cases hk : k' = 0
  · subst hk
    by_cases hj : j' = j
    · subst hj; simp [cellC, st]
    · simp [cellC, st, hj]
  · rw [if_neg (fun z => hk z.1)]
    unfold cellC
    split <;> first | (exact absurd rfl hk) | simp [st]
theorem cu_109 (cy : Nat → ClassId) (ad : Nat → Int → Nat) (sg : Nat → Int → Int) (j v : Int) : ∀ k' j', dmC sg k' j' → cellC cy ad (st sg 109 j v) k' j' = if k' = 0 ∧ j' = j then .inr (0, (fsC0 ad sg j).set 9 (.int (iI (v)))) else cellC cy ad sg k' j' := by
  intro k' j' _
  by_cases hk : k' = 0
  · subst hk
    by_cases hj : j' = j
    · subst hj; simp [cellC, st]
    · simp [cellC, st, hj]
  · rw [if_neg (fun z => hk z.1)]
    unfold cellC
    split <;> first | (exact absurd rfl hk) | simp [st]
theorem cu_110 (cy : Nat → ClassId) (ad : Nat → Int → Nat) (sg : Nat → Int → Int) (j v : Int) : ∀ k' j', dmC sg k' j' → cellC cy ad (st sg 110 j v) k' j' = if k' = 0 ∧ j' = j then .inr (0, (fsC0 ad sg j).set 10 (.long (lI (v)))) else cellC cy ad sg k' j' := by
  intro k' j' _
  by_cases hk : k' = 0
  · subst hk
    by_cases hj : j' = j
    · subst hj; simp [cellC, st]
    · simp [cellC, st, hj]
  · rw [if_neg (fun z => hk z.1)]
    unfold cellC
    split <;> first | (exact absurd rfl hk) | simp [st]
theorem cu_111 (cy : Nat → ClassId) (ad : Nat → Int → Nat) (sg : Nat → Int → Int) (j v : Int) : ∀ k' j', dmC sg k' j' → cellC cy ad (st sg 111 j v) k' j' = if k' = 0 ∧ j' = j then .inr (0, (fsC0 ad sg j).set 11 (.long (lI (v)))) else cellC cy ad sg k' j' := by
  intro k' j' _
  by_cases hk : k' = 0
  · subst hk
    by_cases hj : j' = j
    · subst hj; simp [cellC, st]
    · simp [cellC, st, hj]
  · rw [if_neg (fun z => hk z.1)]
    unfold cellC
    split <;> first | (exact absurd rfl hk) | simp [st]
theorem cu_112 (cy : Nat → ClassId) (ad : Nat → Int → Nat) (sg : Nat → Int → Int) (j v : Int) : ∀ k' j', dmC sg k' j' → cellC cy ad (st sg 112 j v) k' j' = if k' = 0 ∧ j' = j then .inr (0, (fsC0 ad sg j).set 12 (.int (iI (v)))) else cellC cy ad sg k' j' := by
  intro k' j' _
  by_cases hk : k' = 0
  · subst hk
    by_cases hj : j' = j
    · subst hj; simp [cellC, st]
    · simp [cellC, st, hj]
  · rw [if_neg (fun z => hk z.1)]
    unfold cellC
    split <;> first | (exact absurd rfl hk) | simp [st]
theorem cu_113 (cy : Nat → ClassId) (ad : Nat → Int → Nat) (sg : Nat → Int → Int) (j v : Int) : ∀ k' j', dmC sg k' j' → cellC cy ad (st sg 113 j v) k' j' = if k' = 0 ∧ j' = j then .inr (0, (fsC0 ad sg j).set 13 (.long (lI (v)))) else cellC cy ad sg k' j' := by
  intro k' j' _
  by_cases hk : k' = 0
  · subst hk
    by_cases hj : j' = j
    · subst hj; simp [cellC, st]
    · simp [cellC, st, hj]
  · rw [if_neg (fun z => hk z.1)]
    unfold cellC
    split <;> first | (exact absurd rfl hk) | simp [st]
theorem cu_114 (cy : Nat → ClassId) (ad : Nat → Int → Nat) (sg : Nat → Int → Int) (j v : Int) : ∀ k' j', dmC sg k' j' → cellC cy ad (st sg 114 j v) k' j' = if k' = 0 ∧ j' = j then .inr (0, (fsC0 ad sg j).set 14 (.int (iI (v)))) else cellC cy ad sg k' j' := by
  intro k' j' _
  by_cases hk : k' = 0
  · subst hk
    by_cases hj : j' = j
    · subst hj; simp [cellC, st]
    · simp [cellC, st, hj]
  · rw [if_neg (fun z => hk z.1)]
    unfold cellC
    split <;> first | (exact absurd rfl hk) | simp [st]
theorem cu_201 (cy : Nat → ClassId) (ad : Nat → Int → Nat) (sg : Nat → Int → Int) (j v : Int) : ∀ k' j', dmC sg k' j' → cellC cy ad (st sg 201 j v) k' j' = if k' = 1 ∧ j' = j then .inr (1, (fsC1 ad sg j).set 1 (.int (iI (v)))) else cellC cy ad sg k' j' := by
  intro k' j' _
  by_cases hk : k' = 1
  · subst hk
    by_cases hj : j' = j
    · subst hj; simp [cellC, st]
    · simp [cellC, st, hj]
  · rw [if_neg (fun z => hk z.1)]
    unfold cellC
    split <;> first | (exact absurd rfl hk) | simp [st]
theorem cu_202 (cy : Nat → ClassId) (ad : Nat → Int → Nat) (sg : Nat → Int → Int) (j v : Int) : ∀ k' j', dmC sg k' j' → cellC cy ad (st sg 202 j v) k' j' = if k' = 1 ∧ j' = j then .inr (1, (fsC1 ad sg j).set 2 (.int (iI (v)))) else cellC cy ad sg k' j' := by
  intro k' j' _
  by_cases hk : k' = 1
  · subst hk
    by_cases hj : j' = j
    · subst hj; simp [cellC, st]
    · simp [cellC, st, hj]
  · rw [if_neg (fun z => hk z.1)]
    unfold cellC
    split <;> first | (exact absurd rfl hk) | simp [st]
theorem cu_203 (cy : Nat → ClassId) (ad : Nat → Int → Nat) (sg : Nat → Int → Int) (j v : Int) : ∀ k' j', dmC sg k' j' → cellC cy ad (st sg 203 j v) k' j' = if k' = 1 ∧ j' = j then .inr (1, (fsC1 ad sg j).set 3 (.int (iI (v)))) else cellC cy ad sg k' j' := by
  intro k' j' _
  by_cases hk : k' = 1
  · subst hk
    by_cases hj : j' = j
    · subst hj; simp [cellC, st]
    · simp [cellC, st, hj]
  · rw [if_neg (fun z => hk z.1)]
    unfold cellC
    split <;> first | (exact absurd rfl hk) | simp [st]
theorem cu_204 (cy : Nat → ClassId) (ad : Nat → Int → Nat) (sg : Nat → Int → Int) (j v : Int) : ∀ k' j', dmC sg k' j' → cellC cy ad (st sg 204 j v) k' j' = if k' = 1 ∧ j' = j then .inr (1, (fsC1 ad sg j).set 4 (rv (ad 3) (v))) else cellC cy ad sg k' j' := by
  intro k' j' _
  by_cases hk : k' = 1
  · subst hk
    by_cases hj : j' = j
    · subst hj; simp [cellC, st]
    · simp [cellC, st, hj]
  · rw [if_neg (fun z => hk z.1)]
    unfold cellC
    split <;> first | (exact absurd rfl hk) | simp [st]
theorem cu_205 (cy : Nat → ClassId) (ad : Nat → Int → Nat) (sg : Nat → Int → Int) (j v : Int) : ∀ k' j', dmC sg k' j' → cellC cy ad (st sg 205 j v) k' j' = if k' = 1 ∧ j' = j then .inr (1, (fsC1 ad sg j).set 5 (.int (iI (v)))) else cellC cy ad sg k' j' := by
  intro k' j' _
  by_cases hk : k' = 1
  · subst hk
    by_cases hj : j' = j
    · subst hj; simp [cellC, st]
    · simp [cellC, st, hj]
  · rw [if_neg (fun z => hk z.1)]
    unfold cellC
    split <;> first | (exact absurd rfl hk) | simp [st]
theorem cu_206 (cy : Nat → ClassId) (ad : Nat → Int → Nat) (sg : Nat → Int → Int) (j v : Int) : ∀ k' j', dmC sg k' j' → cellC cy ad (st sg 206 j v) k' j' = if k' = 1 ∧ j' = j then .inr (1, (fsC1 ad sg j).set 6 (.int (iI (v)))) else cellC cy ad sg k' j' := by
  intro k' j' _
  by_cases hk : k' = 1
  · subst hk
    by_cases hj : j' = j
    · subst hj; simp [cellC, st]
    · simp [cellC, st, hj]
  · rw [if_neg (fun z => hk z.1)]
    unfold cellC
    split <;> first | (exact absurd rfl hk) | simp [st]
theorem cu_207 (cy : Nat → ClassId) (ad : Nat → Int → Nat) (sg : Nat → Int → Int) (j v : Int) : ∀ k' j', dmC sg k' j' → cellC cy ad (st sg 207 j v) k' j' = if k' = 1 ∧ j' = j then .inr (1, (fsC1 ad sg j).set 7 (rv (ad 2) (v))) else cellC cy ad sg k' j' := by
  intro k' j' _
  by_cases hk : k' = 1
  · subst hk
    by_cases hj : j' = j
    · subst hj; simp [cellC, st]
    · simp [cellC, st, hj]
  · rw [if_neg (fun z => hk z.1)]
    unfold cellC
    split <;> first | (exact absurd rfl hk) | simp [st]
theorem cu_208 (cy : Nat → ClassId) (ad : Nat → Int → Nat) (sg : Nat → Int → Int) (j v : Int) : ∀ k' j', dmC sg k' j' → cellC cy ad (st sg 208 j v) k' j' = if k' = 1 ∧ j' = j then .inr (1, (fsC1 ad sg j).set 8 (.int (iI (v)))) else cellC cy ad sg k' j' := by
  intro k' j' _
  by_cases hk : k' = 1
  · subst hk
    by_cases hj : j' = j
    · subst hj; simp [cellC, st]
    · simp [cellC, st, hj]
  · rw [if_neg (fun z => hk z.1)]
    unfold cellC
    split <;> first | (exact absurd rfl hk) | simp [st]
theorem cu_209 (cy : Nat → ClassId) (ad : Nat → Int → Nat) (sg : Nat → Int → Int) (j v : Int) : ∀ k' j', dmC sg k' j' → cellC cy ad (st sg 209 j v) k' j' = if k' = 1 ∧ j' = j then .inr (1, (fsC1 ad sg j).set 9 (rv (ad 0) (v))) else cellC cy ad sg k' j' := by
  intro k' j' _
  by_cases hk : k' = 1
  · subst hk
    by_cases hj : j' = j
    · subst hj; simp [cellC, st]
    · simp [cellC, st, hj]
  · rw [if_neg (fun z => hk z.1)]
    unfold cellC
    split <;> first | (exact absurd rfl hk) | simp [st]
theorem cu_210 (cy : Nat → ClassId) (ad : Nat → Int → Nat) (sg : Nat → Int → Int) (j v : Int) : ∀ k' j', dmC sg k' j' → cellC cy ad (st sg 210 j v) k' j' = if k' = 1 ∧ j' = j then .inr (1, (fsC1 ad sg j).set 10 (.int (iI (v)))) else cellC cy ad sg k' j' := by
  intro k' j' _
  by_cases hk : k' = 1
  · subst hk
    by_cases hj : j' = j
    · subst hj; simp [cellC, st]
    · simp [cellC, st, hj]
  · rw [if_neg (fun z => hk z.1)]
    unfold cellC
    split <;> first | (exact absurd rfl hk) | simp [st]
theorem cu_403 (cy : Nat → ClassId) (ad : Nat → Int → Nat) (sg : Nat → Int → Int) (j v : Int) : ∀ k' j', dmC sg k' j' → cellC cy ad (st sg 403 j v) k' j' = if k' = 3 ∧ j' = j then .inr (3, (fsC3 ad sg j).set 3 (.int (iI (v)))) else cellC cy ad sg k' j' := by
  intro k' j' _
  by_cases hk : k' = 3
  · subst hk
    by_cases hj : j' = j
    · subst hj; simp [cellC, st]
    · simp [cellC, st, hj]
  · rw [if_neg (fun z => hk z.1)]
    unfold cellC
    split <;> first | (exact absurd rfl hk) | simp [st]
theorem cu_404 (cy : Nat → ClassId) (ad : Nat → Int → Nat) (sg : Nat → Int → Int) (j v : Int) : ∀ k' j', dmC sg k' j' → cellC cy ad (st sg 404 j v) k' j' = if k' = 3 ∧ j' = j then .inr (3, (fsC3 ad sg j).set 4 (.int (iI (v)))) else cellC cy ad sg k' j' := by
  intro k' j' _
  by_cases hk : k' = 3
  · subst hk
    by_cases hj : j' = j
    · subst hj; simp [cellC, st]
    · simp [cellC, st, hj]
  · rw [if_neg (fun z => hk z.1)]
    unfold cellC
    split <;> first | (exact absurd rfl hk) | simp [st]
theorem cu_405 (cy : Nat → ClassId) (ad : Nat → Int → Nat) (sg : Nat → Int → Int) (j v : Int) : ∀ k' j', dmC sg k' j' → cellC cy ad (st sg 405 j v) k' j' = if k' = 3 ∧ j' = j then .inr (3, (fsC3 ad sg j).set 5 (.int (iI (v)))) else cellC cy ad sg k' j' := by
  intro k' j' _
  by_cases hk : k' = 3
  · subst hk
    by_cases hj : j' = j
    · subst hj; simp [cellC, st]
    · simp [cellC, st, hj]
  · rw [if_neg (fun z => hk z.1)]
    unfold cellC
    split <;> first | (exact absurd rfl hk) | simp [st]
theorem cu_503 (cy : Nat → ClassId) (ad : Nat → Int → Nat) (sg : Nat → Int → Int) (j v : Int) : ∀ k' j', dmC sg k' j' → cellC cy ad (st sg 503 j v) k' j' = if k' = 4 ∧ j' = j then .inr (4, (fsC4 ad sg j).set 3 (.int (iI (v)))) else cellC cy ad sg k' j' := by
  intro k' j' _
  by_cases hk : k' = 4
  · subst hk
    by_cases hj : j' = j
    · subst hj; simp [cellC, st]
    · simp [cellC, st, hj]
  · rw [if_neg (fun z => hk z.1)]
    unfold cellC
    split <;> first | (exact absurd rfl hk) | simp [st]
theorem cu_505 (cy : Nat → ClassId) (ad : Nat → Int → Nat) (sg : Nat → Int → Int) (j v : Int) : ∀ k' j', dmC sg k' j' → cellC cy ad (st sg 505 j v) k' j' = if k' = 4 ∧ j' = j then .inr (4, (fsC4 ad sg j).set 5 (.int (iI (v)))) else cellC cy ad sg k' j' := by
  intro k' j' _
  by_cases hk : k' = 4
  · subst hk
    by_cases hj : j' = j
    · subst hj; simp [cellC, st]
    · simp [cellC, st, hj]
  · rw [if_neg (fun z => hk z.1)]
    unfold cellC
    split <;> first | (exact absurd rfl hk) | simp [st]
theorem cu_506 (cy : Nat → ClassId) (ad : Nat → Int → Nat) (sg : Nat → Int → Int) (j v : Int) : ∀ k' j', dmC sg k' j' → cellC cy ad (st sg 506 j v) k' j' = if k' = 4 ∧ j' = j then .inr (4, (fsC4 ad sg j).set 6 (.int (iI (v)))) else cellC cy ad sg k' j' := by
  intro k' j' _
  by_cases hk : k' = 4
  · subst hk
    by_cases hj : j' = j
    · subst hj; simp [cellC, st]
    · simp [cellC, st, hj]
  · rw [if_neg (fun z => hk z.1)]
    unfold cellC
    split <;> first | (exact absurd rfl hk) | simp [st]
theorem cu_507 (cy : Nat → ClassId) (ad : Nat → Int → Nat) (sg : Nat → Int → Int) (j v : Int) : ∀ k' j', dmC sg k' j' → cellC cy ad (st sg 507 j v) k' j' = if k' = 4 ∧ j' = j then .inr (4, (fsC4 ad sg j).set 7 (.long (lI (v)))) else cellC cy ad sg k' j' := by
  intro k' j' _
  by_cases hk : k' = 4
  · subst hk
    by_cases hj : j' = j
    · subst hj; simp [cellC, st]
    · simp [cellC, st, hj]
  · rw [if_neg (fun z => hk z.1)]
    unfold cellC
    split <;> first | (exact absurd rfl hk) | simp [st]
theorem cu_508 (cy : Nat → ClassId) (ad : Nat → Int → Nat) (sg : Nat → Int → Int) (j v : Int) : ∀ k' j', dmC sg k' j' → cellC cy ad (st sg 508 j v) k' j' = if k' = 4 ∧ j' = j then .inr (4, (fsC4 ad sg j).set 8 (.long (lI (v)))) else cellC cy ad sg k' j' := by
  intro k' j' _
  by_cases hk : k' = 4
  · subst hk
    by_cases hj : j' = j
    · subst hj; simp [cellC, st]
    · simp [cellC, st, hj]
  · rw [if_neg (fun z => hk z.1)]
    unfold cellC
    split <;> first | (exact absurd rfl hk) | simp [st]
theorem cu_509 (cy : Nat → ClassId) (ad : Nat → Int → Nat) (sg : Nat → Int → Int) (j v : Int) : ∀ k' j', dmC sg k' j' → cellC cy ad (st sg 509 j v) k' j' = if k' = 4 ∧ j' = j then .inr (4, (fsC4 ad sg j).set 9 (.long (lI (v)))) else cellC cy ad sg k' j' := by
  intro k' j' _
  by_cases hk : k' = 4
  · subst hk
    by_cases hj : j' = j
    · subst hj; simp [cellC, st]
    · simp [cellC, st, hj]
  · rw [if_neg (fun z => hk z.1)]
    unfold cellC
    split <;> first | (exact absurd rfl hk) | simp [st]
theorem cu_510 (cy : Nat → ClassId) (ad : Nat → Int → Nat) (sg : Nat → Int → Int) (j v : Int) : ∀ k' j', dmC sg k' j' → cellC cy ad (st sg 510 j v) k' j' = if k' = 4 ∧ j' = j then .inr (4, (fsC4 ad sg j).set 10 (.long (lI (v)))) else cellC cy ad sg k' j' := by
  intro k' j' _
  by_cases hk : k' = 4
  · subst hk
    by_cases hj : j' = j
    · subst hj; simp [cellC, st]
    · simp [cellC, st, hj]
  · rw [if_neg (fun z => hk z.1)]
    unfold cellC
    split <;> first | (exact absurd rfl hk) | simp [st]
theorem cu_511 (cy : Nat → ClassId) (ad : Nat → Int → Nat) (sg : Nat → Int → Int) (j v : Int) : ∀ k' j', dmC sg k' j' → cellC cy ad (st sg 511 j v) k' j' = if k' = 4 ∧ j' = j then .inr (4, (fsC4 ad sg j).set 11 (.long (lI (v)))) else cellC cy ad sg k' j' := by
  intro k' j' _
  by_cases hk : k' = 4
  · subst hk
    by_cases hj : j' = j
    · subst hj; simp [cellC, st]
    · simp [cellC, st, hj]
  · rw [if_neg (fun z => hk z.1)]
    unfold cellC
    split <;> first | (exact absurd rfl hk) | simp [st]
section CX
variable {p : Program} {l : Launch} {e : Env} {R : Room} {s : State} {m : MethodId} {args : Array Value} {below : List Frame} {meth : Method} {c : Code} {H H0 : Heap} {locs : List Loc} {cells slots : Nat} {Q : State → Prop}
variable {cc : ByteArray} {pc : Nat} {ls : Array Slot} {rest : List Value} {D : va_G} {cy : Nat → ClassId} {A : Nat → Prop} {ad : Nat → Int → Nat} {sg : Nat → Int → Int}
theorem xg_100 (hexec : p.tables.exec = Jvm.exec) (hb : c.code = cc) {own : String} {index : Nat} (hw : ∀ w ∈ u_ws RX0 TX0 15, w.before args s = true) (hown : s.vm.findClass own = some m.cls) (hK : KC D cy s) (hR : RC D cy A ad sg H) {j : Int} (hd : dmC sg 0 j) (hlink : (Cond.fieldLink own index "Takinghall$Interest" "number" "I").before args s = true) {v : Int} (hv : sg 100 j = v) (d : decode cc pc = .ok (.getfield index, 3)) (kk : W p l e R s m args below meth c H locs cells slots Q (F0 m (pc + 3) ls (.int (iI (v)) :: rest))) : W p l e R s m args below meth c H locs cells slots Q (F0 m pc ls (.ref (ad 0 j) :: rest)) := by
  subst hv
  exact wr_get hexec hb hw hown hK hR hd (fs := fsC0 ad sg j) rfl rfl 0 (by decide) hlink rfl d kk
theorem xg_101 (hexec : p.tables.exec = Jvm.exec) (hb : c.code = cc) {own : String} {index : Nat} (hw : ∀ w ∈ u_ws RX0 TX0 15, w.before args s = true) (hown : s.vm.findClass own = some m.cls) (hK : KC D cy s) (hR : RC D cy A ad sg H) {j : Int} (hd : dmC sg 0 j) (hlink : (Cond.fieldLink own index "Takinghall$Interest" "kind" "I").before args s = true) {v : Int} (hv : sg 101 j = v) (d : decode cc pc = .ok (.getfield index, 3)) (kk : W p l e R s m args below meth c H locs cells slots Q (F0 m (pc + 3) ls (.int (iI (v)) :: rest))) : W p l e R s m args below meth c H locs cells slots Q (F0 m pc ls (.ref (ad 0 j) :: rest)) := by
  subst hv
  exact wr_get hexec hb hw hown hK hR hd (fs := fsC0 ad sg j) rfl rfl 1 (by decide) hlink rfl d kk
theorem xg_102 (hexec : p.tables.exec = Jvm.exec) (hb : c.code = cc) {own : String} {index : Nat} (hw : ∀ w ∈ u_ws RX0 TX0 15, w.before args s = true) (hown : s.vm.findClass own = some m.cls) (hK : KC D cy s) (hR : RC D cy A ad sg H) {j : Int} (hd : dmC sg 0 j) (hlink : (Cond.fieldLink own index "Takinghall$Interest" "plot" "LTakinghall$Plot;").before args s = true) {v : Int} (hv : sg 102 j = v) (d : decode cc pc = .ok (.getfield index, 3)) (kk : W p l e R s m args below meth c H locs cells slots Q (F0 m (pc + 3) ls (rv (ad 1) (v) :: rest))) : W p l e R s m args below meth c H locs cells slots Q (F0 m pc ls (.ref (ad 0 j) :: rest)) := by
  subst hv
  exact wr_get hexec hb hw hown hK hR hd (fs := fsC0 ad sg j) rfl rfl 2 (by decide) hlink rfl d kk
theorem xg_103 (hexec : p.tables.exec = Jvm.exec) (hb : c.code = cc) {own : String} {index : Nat} (hw : ∀ w ∈ u_ws RX0 TX0 15, w.before args s = true) (hown : s.vm.findClass own = some m.cls) (hK : KC D cy s) (hR : RC D cy A ad sg H) {j : Int} (hd : dmC sg 0 j) (hlink : (Cond.fieldLink own index "Takinghall$Interest" "person" "I").before args s = true) {v : Int} (hv : sg 103 j = v) (d : decode cc pc = .ok (.getfield index, 3)) (kk : W p l e R s m args below meth c H locs cells slots Q (F0 m (pc + 3) ls (.int (iI (v)) :: rest))) : W p l e R s m args below meth c H locs cells slots Q (F0 m pc ls (.ref (ad 0 j) :: rest)) := by
  subst hv
  exact wr_get hexec hb hw hown hK hR hd (fs := fsC0 ad sg j) rfl rfl 3 (by decide) hlink rfl d kk
theorem xg_104 (hexec : p.tables.exec = Jvm.exec) (hb : c.code = cc) {own : String} {index : Nat} (hw : ∀ w ∈ u_ws RX0 TX0 15, w.before args s = true) (hown : s.vm.findClass own = some m.cls) (hK : KC D cy s) (hR : RC D cy A ad sg H) {j : Int} (hd : dmC sg 0 j) (hlink : (Cond.fieldLink own index "Takinghall$Interest" "since" "I").before args s = true) {v : Int} (hv : sg 104 j = v) (d : decode cc pc = .ok (.getfield index, 3)) (kk : W p l e R s m args below meth c H locs cells slots Q (F0 m (pc + 3) ls (.int (iI (v)) :: rest))) : W p l e R s m args below meth c H locs cells slots Q (F0 m pc ls (.ref (ad 0 j) :: rest)) := by
  subst hv
  exact wr_get hexec hb hw hown hK hR hd (fs := fsC0 ad sg j) rfl rfl 4 (by decide) hlink rfl d kk
theorem xg_105 (hexec : p.tables.exec = Jvm.exec) (hb : c.code = cc) {own : String} {index : Nat} (hw : ∀ w ∈ u_ws RX0 TX0 15, w.before args s = true) (hown : s.vm.findClass own = some m.cls) (hK : KC D cy s) (hR : RC D cy A ad sg H) {j : Int} (hd : dmC sg 0 j) (hlink : (Cond.fieldLink own index "Takinghall$Interest" "measure" "I").before args s = true) {v : Int} (hv : sg 105 j = v) (d : decode cc pc = .ok (.getfield index, 3)) (kk : W p l e R s m args below meth c H locs cells slots Q (F0 m (pc + 3) ls (.int (iI (v)) :: rest))) : W p l e R s m args below meth c H locs cells slots Q (F0 m pc ls (.ref (ad 0 j) :: rest)) := by
  subst hv
  exact wr_get hexec hb hw hown hK hR hd (fs := fsC0 ad sg j) rfl rfl 5 (by decide) hlink rfl d kk
theorem xg_106 (hexec : p.tables.exec = Jvm.exec) (hb : c.code = cc) {own : String} {index : Nat} (hw : ∀ w ∈ u_ws RX0 TX0 15, w.before args s = true) (hown : s.vm.findClass own = some m.cls) (hK : KC D cy s) (hR : RC D cy A ad sg H) {j : Int} (hd : dmC sg 0 j) (hlink : (Cond.fieldLink own index "Takinghall$Interest" "profit" "I").before args s = true) {v : Int} (hv : sg 106 j = v) (d : decode cc pc = .ok (.getfield index, 3)) (kk : W p l e R s m args below meth c H locs cells slots Q (F0 m (pc + 3) ls (.int (iI (v)) :: rest))) : W p l e R s m args below meth c H locs cells slots Q (F0 m pc ls (.ref (ad 0 j) :: rest)) := by
  subst hv
  exact wr_get hexec hb hw hown hK hR hd (fs := fsC0 ad sg j) rfl rfl 6 (by decide) hlink rfl d kk
theorem xg_107 (hexec : p.tables.exec = Jvm.exec) (hb : c.code = cc) {own : String} {index : Nat} (hw : ∀ w ∈ u_ws RX0 TX0 15, w.before args s = true) (hown : s.vm.findClass own = some m.cls) (hK : KC D cy s) (hR : RC D cy A ad sg H) {j : Int} (hd : dmC sg 0 j) (hlink : (Cond.fieldLink own index "Takinghall$Interest" "noticeDay" "I").before args s = true) {v : Int} (hv : sg 107 j = v) (d : decode cc pc = .ok (.getfield index, 3)) (kk : W p l e R s m args below meth c H locs cells slots Q (F0 m (pc + 3) ls (.int (iI (v)) :: rest))) : W p l e R s m args below meth c H locs cells slots Q (F0 m pc ls (.ref (ad 0 j) :: rest)) := by
  subst hv
  exact wr_get hexec hb hw hown hK hR hd (fs := fsC0 ad sg j) rfl rfl 7 (by decide) hlink rfl d kk
theorem xp_107 (hexec : p.tables.exec = Jvm.exec) (hb : c.code = cc) {own : String} {index : Nat} (hw : ∀ w ∈ u_ws RX0 TX0 15, w.before args s = true) (hown : s.vm.findClass own = some m.cls) (hK : KC D cy s) (hR : RC D cy A ad sg H) (hS : va_S A H0 H locs) {j v : Int} (hd : dmC sg 0 j) (hlink : (Cond.fieldLink own index "Takinghall$Interest" "noticeDay" "I").before args s = true) (d : decode cc pc = .ok (.putfield index, 3)) (kk : ∀ (H1 : Heap) (locs1 : List Loc), RC D cy A ad (st sg 107 j v) H1 → va_S A H0 H1 locs1 → W p l e R s m args below meth c H1 locs1 cells slots Q (F0 m (pc + 3) ls rest)) : W p l e R s m args below meth c H locs cells slots Q (F0 m pc ls ((.int (iI v)) :: .ref (ad 0 j) :: rest)) := by
  exact wr_put hexec hb hw tyX0 tyX0_ok nmX0 hown hK hR hS hd (fs := fsC0 ad sg j) rfl rfl 7 (by decide) hlink rfl (ty := .int) (by decide +kernel) rfl rfl (by show 7 < 15; decide) (cu_107 cy ad sg j v) d (fun H1 locs1 h1 h2 => kk H1 locs1 (wr_to h1 (dm_st (by decide)) (fun _ _ _ => ⟨rfl, rfl⟩)) h2)
theorem xg_108 (hexec : p.tables.exec = Jvm.exec) (hb : c.code = cc) {own : String} {index : Nat} (hw : ∀ w ∈ u_ws RX0 TX0 15, w.before args s = true) (hown : s.vm.findClass own = some m.cls) (hK : KC D cy s) (hR : RC D cy A ad sg H) {j : Int} (hd : dmC sg 0 j) (hlink : (Cond.fieldLink own index "Takinghall$Interest" "hasObjected" "Z").before args s = true) {v : Int} (hv : sg 108 j = v) (d : decode cc pc = .ok (.getfield index, 3)) (kk : W p l e R s m args below meth c H locs cells slots Q (F0 m (pc + 3) ls (.int (iI (v)) :: rest))) : W p l e R s m args below meth c H locs cells slots Q (F0 m pc ls (.ref (ad 0 j) :: rest)) := by
  subst hv
  exact wr_get hexec hb hw hown hK hR hd (fs := fsC0 ad sg j) rfl rfl 8 (by decide) hlink rfl d kk
theorem xp_108 (hexec : p.tables.exec = Jvm.exec) (hb : c.code = cc) {own : String} {index : Nat} (hw : ∀ w ∈ u_ws RX0 TX0 15, w.before args s = true) (hown : s.vm.findClass own = some m.cls) (hK : KC D cy s) (hR : RC D cy A ad sg H) (hS : va_S A H0 H locs) {j v : Int} (hd : dmC sg 0 j) (hz : 0 ≤ v ∧ v ≤ 1) (hlink : (Cond.fieldLink own index "Takinghall$Interest" "hasObjected" "Z").before args s = true) (d : decode cc pc = .ok (.putfield index, 3)) (kk : ∀ (H1 : Heap) (locs1 : List Loc), RC D cy A ad (st sg 108 j v) H1 → va_S A H0 H1 locs1 → W p l e R s m args below meth c H1 locs1 cells slots Q (F0 m (pc + 3) ls rest)) : W p l e R s m args below meth c H locs cells slots Q (F0 m pc ls ((.int (iI v)) :: .ref (ad 0 j) :: rest)) := by
  exact wr_put hexec hb hw tyX0 tyX0_ok nmX0 hown hK hR hS hd (fs := fsC0 ad sg j) rfl rfl 8 (by decide) hlink rfl (ty := .boolean) (by decide +kernel) (by rcases (show v = 0 ∨ v = 1 by omega) with z | z <;> subst z <;> rfl) (by rcases (show v = 0 ∨ v = 1 by omega) with z | z <;> subst z <;> rfl) (by show 8 < 15; decide) (cu_108 cy ad sg j v) d (fun H1 locs1 h1 h2 => kk H1 locs1 (wr_to h1 (dm_st (by decide)) (fun _ _ _ => ⟨rfl, rfl⟩)) h2)
theorem xg_109 (hexec : p.tables.exec = Jvm.exec) (hb : c.code = cc) {own : String} {index : Nat} (hw : ∀ w ∈ u_ws RX0 TX0 15, w.before args s = true) (hown : s.vm.findClass own = some m.cls) (hK : KC D cy s) (hR : RC D cy A ad sg H) {j : Int} (hd : dmC sg 0 j) (hlink : (Cond.fieldLink own index "Takinghall$Interest" "isObjectionOpen" "Z").before args s = true) {v : Int} (hv : sg 109 j = v) (d : decode cc pc = .ok (.getfield index, 3)) (kk : W p l e R s m args below meth c H locs cells slots Q (F0 m (pc + 3) ls (.int (iI (v)) :: rest))) : W p l e R s m args below meth c H locs cells slots Q (F0 m pc ls (.ref (ad 0 j) :: rest)) := by
  subst hv
  exact wr_get hexec hb hw hown hK hR hd (fs := fsC0 ad sg j) rfl rfl 9 (by decide) hlink rfl d kk
theorem xp_109 (hexec : p.tables.exec = Jvm.exec) (hb : c.code = cc) {own : String} {index : Nat} (hw : ∀ w ∈ u_ws RX0 TX0 15, w.before args s = true) (hown : s.vm.findClass own = some m.cls) (hK : KC D cy s) (hR : RC D cy A ad sg H) (hS : va_S A H0 H locs) {j v : Int} (hd : dmC sg 0 j) (hz : 0 ≤ v ∧ v ≤ 1) (hlink : (Cond.fieldLink own index "Takinghall$Interest" "isObjectionOpen" "Z").before args s = true) (d : decode cc pc = .ok (.putfield index, 3)) (kk : ∀ (H1 : Heap) (locs1 : List Loc), RC D cy A ad (st sg 109 j v) H1 → va_S A H0 H1 locs1 → W p l e R s m args below meth c H1 locs1 cells slots Q (F0 m (pc + 3) ls rest)) : W p l e R s m args below meth c H locs cells slots Q (F0 m pc ls ((.int (iI v)) :: .ref (ad 0 j) :: rest)) := by
  exact wr_put hexec hb hw tyX0 tyX0_ok nmX0 hown hK hR hS hd (fs := fsC0 ad sg j) rfl rfl 9 (by decide) hlink rfl (ty := .boolean) (by decide +kernel) (by rcases (show v = 0 ∨ v = 1 by omega) with z | z <;> subst z <;> rfl) (by rcases (show v = 0 ∨ v = 1 by omega) with z | z <;> subst z <;> rfl) (by show 9 < 15; decide) (cu_109 cy ad sg j v) d (fun H1 locs1 h1 h2 => kk H1 locs1 (wr_to h1 (dm_st (by decide)) (fun _ _ _ => ⟨rfl, rfl⟩)) h2)
theorem xg_110 (hexec : p.tables.exec = Jvm.exec) (hb : c.code = cc) {own : String} {index : Nat} (hw : ∀ w ∈ u_ws RX0 TX0 15, w.before args s = true) (hown : s.vm.findClass own = some m.cls) (hK : KC D cy s) (hR : RC D cy A ad sg H) {j : Int} (hd : dmC sg 0 j) (hlink : (Cond.fieldLink own index "Takinghall$Interest" "sum" "J").before args s = true) {v : Int} (hv : sg 110 j = v) (d : decode cc pc = .ok (.getfield index, 3)) (kk : W p l e R s m args below meth c H locs cells slots Q (F0 m (pc + 3) ls (.long (lI (v)) :: rest))) : W p l e R s m args below meth c H locs cells slots Q (F0 m pc ls (.ref (ad 0 j) :: rest)) := by
  subst hv
  exact wr_get hexec hb hw hown hK hR hd (fs := fsC0 ad sg j) rfl rfl 10 (by decide) hlink rfl d kk
theorem xp_110 (hexec : p.tables.exec = Jvm.exec) (hb : c.code = cc) {own : String} {index : Nat} (hw : ∀ w ∈ u_ws RX0 TX0 15, w.before args s = true) (hown : s.vm.findClass own = some m.cls) (hK : KC D cy s) (hR : RC D cy A ad sg H) (hS : va_S A H0 H locs) {j v : Int} (hd : dmC sg 0 j) (hlink : (Cond.fieldLink own index "Takinghall$Interest" "sum" "J").before args s = true) (d : decode cc pc = .ok (.putfield index, 3)) (kk : ∀ (H1 : Heap) (locs1 : List Loc), RC D cy A ad (st sg 110 j v) H1 → va_S A H0 H1 locs1 → W p l e R s m args below meth c H1 locs1 cells slots Q (F0 m (pc + 3) ls rest)) : W p l e R s m args below meth c H locs cells slots Q (F0 m pc ls ((.long (lI v)) :: .ref (ad 0 j) :: rest)) := by
  exact wr_put hexec hb hw tyX0 tyX0_ok nmX0 hown hK hR hS hd (fs := fsC0 ad sg j) rfl rfl 10 (by decide) hlink rfl (ty := .long) (by decide +kernel) rfl rfl (by show 10 < 15; decide) (cu_110 cy ad sg j v) d (fun H1 locs1 h1 h2 => kk H1 locs1 (wr_to h1 (dm_st (by decide)) (fun _ _ _ => ⟨rfl, rfl⟩)) h2)
theorem xg_111 (hexec : p.tables.exec = Jvm.exec) (hb : c.code = cc) {own : String} {index : Nat} (hw : ∀ w ∈ u_ws RX0 TX0 15, w.before args s = true) (hown : s.vm.findClass own = some m.cls) (hK : KC D cy s) (hR : RC D cy A ad sg H) {j : Int} (hd : dmC sg 0 j) (hlink : (Cond.fieldLink own index "Takinghall$Interest" "advanced" "J").before args s = true) {v : Int} (hv : sg 111 j = v) (d : decode cc pc = .ok (.getfield index, 3)) (kk : W p l e R s m args below meth c H locs cells slots Q (F0 m (pc + 3) ls (.long (lI (v)) :: rest))) : W p l e R s m args below meth c H locs cells slots Q (F0 m pc ls (.ref (ad 0 j) :: rest)) := by
  subst hv
  exact wr_get hexec hb hw hown hK hR hd (fs := fsC0 ad sg j) rfl rfl 11 (by decide) hlink rfl d kk
theorem xp_111 (hexec : p.tables.exec = Jvm.exec) (hb : c.code = cc) {own : String} {index : Nat} (hw : ∀ w ∈ u_ws RX0 TX0 15, w.before args s = true) (hown : s.vm.findClass own = some m.cls) (hK : KC D cy s) (hR : RC D cy A ad sg H) (hS : va_S A H0 H locs) {j v : Int} (hd : dmC sg 0 j) (hlink : (Cond.fieldLink own index "Takinghall$Interest" "advanced" "J").before args s = true) (d : decode cc pc = .ok (.putfield index, 3)) (kk : ∀ (H1 : Heap) (locs1 : List Loc), RC D cy A ad (st sg 111 j v) H1 → va_S A H0 H1 locs1 → W p l e R s m args below meth c H1 locs1 cells slots Q (F0 m (pc + 3) ls rest)) : W p l e R s m args below meth c H locs cells slots Q (F0 m pc ls ((.long (lI v)) :: .ref (ad 0 j) :: rest)) := by
  exact wr_put hexec hb hw tyX0 tyX0_ok nmX0 hown hK hR hS hd (fs := fsC0 ad sg j) rfl rfl 11 (by decide) hlink rfl (ty := .long) (by decide +kernel) rfl rfl (by show 11 < 15; decide) (cu_111 cy ad sg j v) d (fun H1 locs1 h1 h2 => kk H1 locs1 (wr_to h1 (dm_st (by decide)) (fun _ _ _ => ⟨rfl, rfl⟩)) h2)
theorem xg_112 (hexec : p.tables.exec = Jvm.exec) (hb : c.code = cc) {own : String} {index : Nat} (hw : ∀ w ∈ u_ws RX0 TX0 15, w.before args s = true) (hown : s.vm.findClass own = some m.cls) (hK : KC D cy s) (hR : RC D cy A ad sg H) {j : Int} (hd : dmC sg 0 j) (hlink : (Cond.fieldLink own index "Takinghall$Interest" "advanceDay" "I").before args s = true) {v : Int} (hv : sg 112 j = v) (d : decode cc pc = .ok (.getfield index, 3)) (kk : W p l e R s m args below meth c H locs cells slots Q (F0 m (pc + 3) ls (.int (iI (v)) :: rest))) : W p l e R s m args below meth c H locs cells slots Q (F0 m pc ls (.ref (ad 0 j) :: rest)) := by
  subst hv
  exact wr_get hexec hb hw hown hK hR hd (fs := fsC0 ad sg j) rfl rfl 12 (by decide) hlink rfl d kk
theorem xp_112 (hexec : p.tables.exec = Jvm.exec) (hb : c.code = cc) {own : String} {index : Nat} (hw : ∀ w ∈ u_ws RX0 TX0 15, w.before args s = true) (hown : s.vm.findClass own = some m.cls) (hK : KC D cy s) (hR : RC D cy A ad sg H) (hS : va_S A H0 H locs) {j v : Int} (hd : dmC sg 0 j) (hlink : (Cond.fieldLink own index "Takinghall$Interest" "advanceDay" "I").before args s = true) (d : decode cc pc = .ok (.putfield index, 3)) (kk : ∀ (H1 : Heap) (locs1 : List Loc), RC D cy A ad (st sg 112 j v) H1 → va_S A H0 H1 locs1 → W p l e R s m args below meth c H1 locs1 cells slots Q (F0 m (pc + 3) ls rest)) : W p l e R s m args below meth c H locs cells slots Q (F0 m pc ls ((.int (iI v)) :: .ref (ad 0 j) :: rest)) := by
  exact wr_put hexec hb hw tyX0 tyX0_ok nmX0 hown hK hR hS hd (fs := fsC0 ad sg j) rfl rfl 12 (by decide) hlink rfl (ty := .int) (by decide +kernel) rfl rfl (by show 12 < 15; decide) (cu_112 cy ad sg j v) d (fun H1 locs1 h1 h2 => kk H1 locs1 (wr_to h1 (dm_st (by decide)) (fun _ _ _ => ⟨rfl, rfl⟩)) h2)
theorem xg_113 (hexec : p.tables.exec = Jvm.exec) (hb : c.code = cc) {own : String} {index : Nat} (hw : ∀ w ∈ u_ws RX0 TX0 15, w.before args s = true) (hown : s.vm.findClass own = some m.cls) (hK : KC D cy s) (hR : RC D cy A ad sg H) {j : Int} (hd : dmC sg 0 j) (hlink : (Cond.fieldLink own index "Takinghall$Interest" "settled" "J").before args s = true) {v : Int} (hv : sg 113 j = v) (d : decode cc pc = .ok (.getfield index, 3)) (kk : W p l e R s m args below meth c H locs cells slots Q (F0 m (pc + 3) ls (.long (lI (v)) :: rest))) : W p l e R s m args below meth c H locs cells slots Q (F0 m pc ls (.ref (ad 0 j) :: rest)) := by
  subst hv
  exact wr_get hexec hb hw hown hK hR hd (fs := fsC0 ad sg j) rfl rfl 13 (by decide) hlink rfl d kk
theorem xp_113 (hexec : p.tables.exec = Jvm.exec) (hb : c.code = cc) {own : String} {index : Nat} (hw : ∀ w ∈ u_ws RX0 TX0 15, w.before args s = true) (hown : s.vm.findClass own = some m.cls) (hK : KC D cy s) (hR : RC D cy A ad sg H) (hS : va_S A H0 H locs) {j v : Int} (hd : dmC sg 0 j) (hlink : (Cond.fieldLink own index "Takinghall$Interest" "settled" "J").before args s = true) (d : decode cc pc = .ok (.putfield index, 3)) (kk : ∀ (H1 : Heap) (locs1 : List Loc), RC D cy A ad (st sg 113 j v) H1 → va_S A H0 H1 locs1 → W p l e R s m args below meth c H1 locs1 cells slots Q (F0 m (pc + 3) ls rest)) : W p l e R s m args below meth c H locs cells slots Q (F0 m pc ls ((.long (lI v)) :: .ref (ad 0 j) :: rest)) := by
  exact wr_put hexec hb hw tyX0 tyX0_ok nmX0 hown hK hR hS hd (fs := fsC0 ad sg j) rfl rfl 13 (by decide) hlink rfl (ty := .long) (by decide +kernel) rfl rfl (by show 13 < 15; decide) (cu_113 cy ad sg j v) d (fun H1 locs1 h1 h2 => kk H1 locs1 (wr_to h1 (dm_st (by decide)) (fun _ _ _ => ⟨rfl, rfl⟩)) h2)
theorem xg_114 (hexec : p.tables.exec = Jvm.exec) (hb : c.code = cc) {own : String} {index : Nat} (hw : ∀ w ∈ u_ws RX0 TX0 15, w.before args s = true) (hown : s.vm.findClass own = some m.cls) (hK : KC D cy s) (hR : RC D cy A ad sg H) {j : Int} (hd : dmC sg 0 j) (hlink : (Cond.fieldLink own index "Takinghall$Interest" "isSettled" "Z").before args s = true) {v : Int} (hv : sg 114 j = v) (d : decode cc pc = .ok (.getfield index, 3)) (kk : W p l e R s m args below meth c H locs cells slots Q (F0 m (pc + 3) ls (.int (iI (v)) :: rest))) : W p l e R s m args below meth c H locs cells slots Q (F0 m pc ls (.ref (ad 0 j) :: rest)) := by
  subst hv
  exact wr_get hexec hb hw hown hK hR hd (fs := fsC0 ad sg j) rfl rfl 14 (by decide) hlink rfl d kk
theorem xp_114 (hexec : p.tables.exec = Jvm.exec) (hb : c.code = cc) {own : String} {index : Nat} (hw : ∀ w ∈ u_ws RX0 TX0 15, w.before args s = true) (hown : s.vm.findClass own = some m.cls) (hK : KC D cy s) (hR : RC D cy A ad sg H) (hS : va_S A H0 H locs) {j v : Int} (hd : dmC sg 0 j) (hz : 0 ≤ v ∧ v ≤ 1) (hlink : (Cond.fieldLink own index "Takinghall$Interest" "isSettled" "Z").before args s = true) (d : decode cc pc = .ok (.putfield index, 3)) (kk : ∀ (H1 : Heap) (locs1 : List Loc), RC D cy A ad (st sg 114 j v) H1 → va_S A H0 H1 locs1 → W p l e R s m args below meth c H1 locs1 cells slots Q (F0 m (pc + 3) ls rest)) : W p l e R s m args below meth c H locs cells slots Q (F0 m pc ls ((.int (iI v)) :: .ref (ad 0 j) :: rest)) := by
  exact wr_put hexec hb hw tyX0 tyX0_ok nmX0 hown hK hR hS hd (fs := fsC0 ad sg j) rfl rfl 14 (by decide) hlink rfl (ty := .boolean) (by decide +kernel) (by rcases (show v = 0 ∨ v = 1 by omega) with z | z <;> subst z <;> rfl) (by rcases (show v = 0 ∨ v = 1 by omega) with z | z <;> subst z <;> rfl) (by show 14 < 15; decide) (cu_114 cy ad sg j v) d (fun H1 locs1 h1 h2 => kk H1 locs1 (wr_to h1 (dm_st (by decide)) (fun _ _ _ => ⟨rfl, rfl⟩)) h2)
theorem xg_200 (hexec : p.tables.exec = Jvm.exec) (hb : c.code = cc) {own : String} {index : Nat} (hw : ∀ w ∈ u_ws RX1 TX1 11, w.before args s = true) (hown : s.vm.findClass own = some m.cls) (hK : KC D cy s) (hR : RC D cy A ad sg H) {j : Int} (hd : dmC sg 1 j) (hlink : (Cond.fieldLink own index "Takinghall$Plot" "number" "I").before args s = true) {v : Int} (hv : sg 200 j = v) (d : decode cc pc = .ok (.getfield index, 3)) (kk : W p l e R s m args below meth c H locs cells slots Q (F0 m (pc + 3) ls (.int (iI (v)) :: rest))) : W p l e R s m args below meth c H locs cells slots Q (F0 m pc ls (.ref (ad 1 j) :: rest)) := by
  subst hv
  exact wr_get hexec hb hw hown hK hR hd (fs := fsC1 ad sg j) rfl rfl 0 (by decide) hlink rfl d kk
theorem xg_201 (hexec : p.tables.exec = Jvm.exec) (hb : c.code = cc) {own : String} {index : Nat} (hw : ∀ w ∈ u_ws RX1 TX1 11, w.before args s = true) (hown : s.vm.findClass own = some m.cls) (hK : KC D cy s) (hR : RC D cy A ad sg H) {j : Int} (hd : dmC sg 1 j) (hlink : (Cond.fieldLink own index "Takinghall$Plot" "area" "I").before args s = true) {v : Int} (hv : sg 201 j = v) (d : decode cc pc = .ok (.getfield index, 3)) (kk : W p l e R s m args below meth c H locs cells slots Q (F0 m (pc + 3) ls (.int (iI (v)) :: rest))) : W p l e R s m args below meth c H locs cells slots Q (F0 m pc ls (.ref (ad 1 j) :: rest)) := by
  subst hv
  exact wr_get hexec hb hw hown hK hR hd (fs := fsC1 ad sg j) rfl rfl 1 (by decide) hlink rfl d kk
theorem xp_201 (hexec : p.tables.exec = Jvm.exec) (hb : c.code = cc) {own : String} {index : Nat} (hw : ∀ w ∈ u_ws RX1 TX1 11, w.before args s = true) (hown : s.vm.findClass own = some m.cls) (hK : KC D cy s) (hR : RC D cy A ad sg H) (hS : va_S A H0 H locs) {j v : Int} (hd : dmC sg 1 j) (hlink : (Cond.fieldLink own index "Takinghall$Plot" "area" "I").before args s = true) (d : decode cc pc = .ok (.putfield index, 3)) (kk : ∀ (H1 : Heap) (locs1 : List Loc), RC D cy A ad (st sg 201 j v) H1 → va_S A H0 H1 locs1 → W p l e R s m args below meth c H1 locs1 cells slots Q (F0 m (pc + 3) ls rest)) : W p l e R s m args below meth c H locs cells slots Q (F0 m pc ls ((.int (iI v)) :: .ref (ad 1 j) :: rest)) := by
  exact wr_put hexec hb hw tyX1 tyX1_ok nmX1 hown hK hR hS hd (fs := fsC1 ad sg j) rfl rfl 1 (by decide) hlink rfl (ty := .int) (by decide +kernel) rfl rfl (by show 1 < 11; decide) (cu_201 cy ad sg j v) d (fun H1 locs1 h1 h2 => kk H1 locs1 (wr_to h1 (dm_st (by decide)) (fun _ _ _ => ⟨rfl, rfl⟩)) h2)
theorem xg_202 (hexec : p.tables.exec = Jvm.exec) (hb : c.code = cc) {own : String} {index : Nat} (hw : ∀ w ∈ u_ws RX1 TX1 11, w.before args s = true) (hown : s.vm.findClass own = some m.cls) (hK : KC D cy s) (hR : RC D cy A ad sg H) {j : Int} (hd : dmC sg 1 j) (hlink : (Cond.fieldLink own index "Takinghall$Plot" "use" "I").before args s = true) {v : Int} (hv : sg 202 j = v) (d : decode cc pc = .ok (.getfield index, 3)) (kk : W p l e R s m args below meth c H locs cells slots Q (F0 m (pc + 3) ls (.int (iI (v)) :: rest))) : W p l e R s m args below meth c H locs cells slots Q (F0 m pc ls (.ref (ad 1 j) :: rest)) := by
  subst hv
  exact wr_get hexec hb hw hown hK hR hd (fs := fsC1 ad sg j) rfl rfl 2 (by decide) hlink rfl d kk
theorem xp_202 (hexec : p.tables.exec = Jvm.exec) (hb : c.code = cc) {own : String} {index : Nat} (hw : ∀ w ∈ u_ws RX1 TX1 11, w.before args s = true) (hown : s.vm.findClass own = some m.cls) (hK : KC D cy s) (hR : RC D cy A ad sg H) (hS : va_S A H0 H locs) {j v : Int} (hd : dmC sg 1 j) (hlink : (Cond.fieldLink own index "Takinghall$Plot" "use" "I").before args s = true) (d : decode cc pc = .ok (.putfield index, 3)) (kk : ∀ (H1 : Heap) (locs1 : List Loc), RC D cy A ad (st sg 202 j v) H1 → va_S A H0 H1 locs1 → W p l e R s m args below meth c H1 locs1 cells slots Q (F0 m (pc + 3) ls rest)) : W p l e R s m args below meth c H locs cells slots Q (F0 m pc ls ((.int (iI v)) :: .ref (ad 1 j) :: rest)) := by
  exact wr_put hexec hb hw tyX1 tyX1_ok nmX1 hown hK hR hS hd (fs := fsC1 ad sg j) rfl rfl 2 (by decide) hlink rfl (ty := .int) (by decide +kernel) rfl rfl (by show 2 < 11; decide) (cu_202 cy ad sg j v) d (fun H1 locs1 h1 h2 => kk H1 locs1 (wr_to h1 (dm_st (by decide)) (fun _ _ _ => ⟨rfl, rfl⟩)) h2)
theorem xg_203 (hexec : p.tables.exec = Jvm.exec) (hb : c.code = cc) {own : String} {index : Nat} (hw : ∀ w ∈ u_ws RX1 TX1 11, w.before args s = true) (hown : s.vm.findClass own = some m.cls) (hK : KC D cy s) (hR : RC D cy A ad sg H) {j : Int} (hd : dmC sg 1 j) (hlink : (Cond.fieldLink own index "Takinghall$Plot" "state" "I").before args s = true) {v : Int} (hv : sg 203 j = v) (d : decode cc pc = .ok (.getfield index, 3)) (kk : W p l e R s m args below meth c H locs cells slots Q (F0 m (pc + 3) ls (.int (iI (v)) :: rest))) : W p l e R s m args below meth c H locs cells slots Q (F0 m pc ls (.ref (ad 1 j) :: rest)) := by
  subst hv
  exact wr_get hexec hb hw hown hK hR hd (fs := fsC1 ad sg j) rfl rfl 3 (by decide) hlink rfl d kk
theorem xp_203 (hexec : p.tables.exec = Jvm.exec) (hb : c.code = cc) {own : String} {index : Nat} (hw : ∀ w ∈ u_ws RX1 TX1 11, w.before args s = true) (hown : s.vm.findClass own = some m.cls) (hK : KC D cy s) (hR : RC D cy A ad sg H) (hS : va_S A H0 H locs) {j v : Int} (hd : dmC sg 1 j) (hlink : (Cond.fieldLink own index "Takinghall$Plot" "state" "I").before args s = true) (d : decode cc pc = .ok (.putfield index, 3)) (kk : ∀ (H1 : Heap) (locs1 : List Loc), RC D cy A ad (st sg 203 j v) H1 → va_S A H0 H1 locs1 → W p l e R s m args below meth c H1 locs1 cells slots Q (F0 m (pc + 3) ls rest)) : W p l e R s m args below meth c H locs cells slots Q (F0 m pc ls ((.int (iI v)) :: .ref (ad 1 j) :: rest)) := by
  exact wr_put hexec hb hw tyX1 tyX1_ok nmX1 hown hK hR hS hd (fs := fsC1 ad sg j) rfl rfl 3 (by decide) hlink rfl (ty := .int) (by decide +kernel) rfl rfl (by show 3 < 11; decide) (cu_203 cy ad sg j v) d (fun H1 locs1 h1 h2 => kk H1 locs1 (wr_to h1 (dm_st (by decide)) (fun _ _ _ => ⟨rfl, rfl⟩)) h2)
theorem xg_204 (hexec : p.tables.exec = Jvm.exec) (hb : c.code = cc) {own : String} {index : Nat} (hw : ∀ w ∈ u_ws RX1 TX1 11, w.before args s = true) (hown : s.vm.findClass own = some m.cls) (hK : KC D cy s) (hR : RC D cy A ad sg H) {j : Int} (hd : dmC sg 1 j) (hlink : (Cond.fieldLink own index "Takinghall$Plot" "scheme" "LTakinghall$Scheme;").before args s = true) {v : Int} (hv : sg 204 j = v) (d : decode cc pc = .ok (.getfield index, 3)) (kk : W p l e R s m args below meth c H locs cells slots Q (F0 m (pc + 3) ls (rv (ad 3) (v) :: rest))) : W p l e R s m args below meth c H locs cells slots Q (F0 m pc ls (.ref (ad 1 j) :: rest)) := by
  subst hv
  exact wr_get hexec hb hw hown hK hR hd (fs := fsC1 ad sg j) rfl rfl 4 (by decide) hlink rfl d kk
theorem xp_204 (hexec : p.tables.exec = Jvm.exec) (hb : c.code = cc) {own : String} {index : Nat} (hw : ∀ w ∈ u_ws RX1 TX1 11, w.before args s = true) (hown : s.vm.findClass own = some m.cls) (hK : KC D cy s) (hR : RC D cy A ad sg H) (hS : va_S A H0 H locs) {j v : Int} (hd : dmC sg 1 j) {x : Value} (hx : x = rv (ad 3) v) (hlink : (Cond.fieldLink own index "Takinghall$Plot" "scheme" "LTakinghall$Scheme;").before args s = true) (d : decode cc pc = .ok (.putfield index, 3)) (kk : ∀ (H1 : Heap) (locs1 : List Loc), RC D cy A ad (st sg 204 j v) H1 → va_S A H0 H1 locs1 → W p l e R s m args below meth c H1 locs1 cells slots Q (F0 m (pc + 3) ls rest)) : W p l e R s m args below meth c H locs cells slots Q (F0 m pc ls (x :: .ref (ad 1 j) :: rest)) := by
  subst hx
  exact wr_put hexec hb hw tyX1 tyX1_ok nmX1 hown hK hR hS hd (fs := fsC1 ad sg j) rfl rfl 4 (by decide) hlink rfl (ty := (.object "Takinghall$Scheme")) (by decide +kernel) (rv_fit _ _ _).1 (rv_fit _ _ _).2 (by show 4 < 11; decide) (cu_204 cy ad sg j v) d (fun H1 locs1 h1 h2 => kk H1 locs1 (wr_to h1 (dm_st (by decide)) (fun _ _ _ => ⟨rfl, rfl⟩)) h2)
theorem xg_205 (hexec : p.tables.exec = Jvm.exec) (hb : c.code = cc) {own : String} {index : Nat} (hw : ∀ w ∈ u_ws RX1 TX1 11, w.before args s = true) (hown : s.vm.findClass own = some m.cls) (hK : KC D cy s) (hR : RC D cy A ad sg H) {j : Int} (hd : dmC sg 1 j) (hlink : (Cond.fieldLink own index "Takinghall$Plot" "part" "I").before args s = true) {v : Int} (hv : sg 205 j = v) (d : decode cc pc = .ok (.getfield index, 3)) (kk : W p l e R s m args below meth c H locs cells slots Q (F0 m (pc + 3) ls (.int (iI (v)) :: rest))) : W p l e R s m args below meth c H locs cells slots Q (F0 m pc ls (.ref (ad 1 j) :: rest)) := by
  subst hv
  exact wr_get hexec hb hw hown hK hR hd (fs := fsC1 ad sg j) rfl rfl 5 (by decide) hlink rfl d kk
theorem xp_205 (hexec : p.tables.exec = Jvm.exec) (hb : c.code = cc) {own : String} {index : Nat} (hw : ∀ w ∈ u_ws RX1 TX1 11, w.before args s = true) (hown : s.vm.findClass own = some m.cls) (hK : KC D cy s) (hR : RC D cy A ad sg H) (hS : va_S A H0 H locs) {j v : Int} (hd : dmC sg 1 j) (hlink : (Cond.fieldLink own index "Takinghall$Plot" "part" "I").before args s = true) (d : decode cc pc = .ok (.putfield index, 3)) (kk : ∀ (H1 : Heap) (locs1 : List Loc), RC D cy A ad (st sg 205 j v) H1 → va_S A H0 H1 locs1 → W p l e R s m args below meth c H1 locs1 cells slots Q (F0 m (pc + 3) ls rest)) : W p l e R s m args below meth c H locs cells slots Q (F0 m pc ls ((.int (iI v)) :: .ref (ad 1 j) :: rest)) := by
  exact wr_put hexec hb hw tyX1 tyX1_ok nmX1 hown hK hR hS hd (fs := fsC1 ad sg j) rfl rfl 5 (by decide) hlink rfl (ty := .int) (by decide +kernel) rfl rfl (by show 5 < 11; decide) (cu_205 cy ad sg j v) d (fun H1 locs1 h1 h2 => kk H1 locs1 (wr_to h1 (dm_st (by decide)) (fun _ _ _ => ⟨rfl, rfl⟩)) h2)
theorem xg_206 (hexec : p.tables.exec = Jvm.exec) (hb : c.code = cc) {own : String} {index : Nat} (hw : ∀ w ∈ u_ws RX1 TX1 11, w.before args s = true) (hown : s.vm.findClass own = some m.cls) (hK : KC D cy s) (hR : RC D cy A ad sg H) {j : Int} (hd : dmC sg 1 j) (hlink : (Cond.fieldLink own index "Takinghall$Plot" "valueDay" "I").before args s = true) {v : Int} (hv : sg 206 j = v) (d : decode cc pc = .ok (.getfield index, 3)) (kk : W p l e R s m args below meth c H locs cells slots Q (F0 m (pc + 3) ls (.int (iI (v)) :: rest))) : W p l e R s m args below meth c H locs cells slots Q (F0 m pc ls (.ref (ad 1 j) :: rest)) := by
  subst hv
  exact wr_get hexec hb hw hown hK hR hd (fs := fsC1 ad sg j) rfl rfl 6 (by decide) hlink rfl d kk
theorem xp_206 (hexec : p.tables.exec = Jvm.exec) (hb : c.code = cc) {own : String} {index : Nat} (hw : ∀ w ∈ u_ws RX1 TX1 11, w.before args s = true) (hown : s.vm.findClass own = some m.cls) (hK : KC D cy s) (hR : RC D cy A ad sg H) (hS : va_S A H0 H locs) {j v : Int} (hd : dmC sg 1 j) (hlink : (Cond.fieldLink own index "Takinghall$Plot" "valueDay" "I").before args s = true) (d : decode cc pc = .ok (.putfield index, 3)) (kk : ∀ (H1 : Heap) (locs1 : List Loc), RC D cy A ad (st sg 206 j v) H1 → va_S A H0 H1 locs1 → W p l e R s m args below meth c H1 locs1 cells slots Q (F0 m (pc + 3) ls rest)) : W p l e R s m args below meth c H locs cells slots Q (F0 m pc ls ((.int (iI v)) :: .ref (ad 1 j) :: rest)) := by
  exact wr_put hexec hb hw tyX1 tyX1_ok nmX1 hown hK hR hS hd (fs := fsC1 ad sg j) rfl rfl 6 (by decide) hlink rfl (ty := .int) (by decide +kernel) rfl rfl (by show 6 < 11; decide) (cu_206 cy ad sg j v) d (fun H1 locs1 h1 h2 => kk H1 locs1 (wr_to h1 (dm_st (by decide)) (fun _ _ _ => ⟨rfl, rfl⟩)) h2)
theorem xg_207 (hexec : p.tables.exec = Jvm.exec) (hb : c.code = cc) {own : String} {index : Nat} (hw : ∀ w ∈ u_ws RX1 TX1 11, w.before args s = true) (hown : s.vm.findClass own = some m.cls) (hK : KC D cy s) (hR : RC D cy A ad sg H) {j : Int} (hd : dmC sg 1 j) (hlink : (Cond.fieldLink own index "Takinghall$Plot" "valuePrice" "LTakinghall$Price;").before args s = true) {v : Int} (hv : sg 207 j = v) (d : decode cc pc = .ok (.getfield index, 3)) (kk : W p l e R s m args below meth c H locs cells slots Q (F0 m (pc + 3) ls (rv (ad 2) (v) :: rest))) : W p l e R s m args below meth c H locs cells slots Q (F0 m pc ls (.ref (ad 1 j) :: rest)) := by
  subst hv
  exact wr_get hexec hb hw hown hK hR hd (fs := fsC1 ad sg j) rfl rfl 7 (by decide) hlink rfl d kk
theorem xp_207 (hexec : p.tables.exec = Jvm.exec) (hb : c.code = cc) {own : String} {index : Nat} (hw : ∀ w ∈ u_ws RX1 TX1 11, w.before args s = true) (hown : s.vm.findClass own = some m.cls) (hK : KC D cy s) (hR : RC D cy A ad sg H) (hS : va_S A H0 H locs) {j v : Int} (hd : dmC sg 1 j) {x : Value} (hx : x = rv (ad 2) v) (hlink : (Cond.fieldLink own index "Takinghall$Plot" "valuePrice" "LTakinghall$Price;").before args s = true) (d : decode cc pc = .ok (.putfield index, 3)) (kk : ∀ (H1 : Heap) (locs1 : List Loc), RC D cy A ad (st sg 207 j v) H1 → va_S A H0 H1 locs1 → W p l e R s m args below meth c H1 locs1 cells slots Q (F0 m (pc + 3) ls rest)) : W p l e R s m args below meth c H locs cells slots Q (F0 m pc ls (x :: .ref (ad 1 j) :: rest)) := by
  subst hx
  exact wr_put hexec hb hw tyX1 tyX1_ok nmX1 hown hK hR hS hd (fs := fsC1 ad sg j) rfl rfl 7 (by decide) hlink rfl (ty := (.object "Takinghall$Price")) (by decide +kernel) (rv_fit _ _ _).1 (rv_fit _ _ _).2 (by show 7 < 11; decide) (cu_207 cy ad sg j v) d (fun H1 locs1 h1 h2 => kk H1 locs1 (wr_to h1 (dm_st (by decide)) (fun _ _ _ => ⟨rfl, rfl⟩)) h2)
theorem xg_208 (hexec : p.tables.exec = Jvm.exec) (hb : c.code = cc) {own : String} {index : Nat} (hw : ∀ w ∈ u_ws RX1 TX1 11, w.before args s = true) (hown : s.vm.findClass own = some m.cls) (hK : KC D cy s) (hR : RC D cy A ad sg H) {j : Int} (hd : dmC sg 1 j) (hlink : (Cond.fieldLink own index "Takinghall$Plot" "hasWorks" "Z").before args s = true) {v : Int} (hv : sg 208 j = v) (d : decode cc pc = .ok (.getfield index, 3)) (kk : W p l e R s m args below meth c H locs cells slots Q (F0 m (pc + 3) ls (.int (iI (v)) :: rest))) : W p l e R s m args below meth c H locs cells slots Q (F0 m pc ls (.ref (ad 1 j) :: rest)) := by
  subst hv
  exact wr_get hexec hb hw hown hK hR hd (fs := fsC1 ad sg j) rfl rfl 8 (by decide) hlink rfl d kk
theorem xp_208 (hexec : p.tables.exec = Jvm.exec) (hb : c.code = cc) {own : String} {index : Nat} (hw : ∀ w ∈ u_ws RX1 TX1 11, w.before args s = true) (hown : s.vm.findClass own = some m.cls) (hK : KC D cy s) (hR : RC D cy A ad sg H) (hS : va_S A H0 H locs) {j v : Int} (hd : dmC sg 1 j) (hz : 0 ≤ v ∧ v ≤ 1) (hlink : (Cond.fieldLink own index "Takinghall$Plot" "hasWorks" "Z").before args s = true) (d : decode cc pc = .ok (.putfield index, 3)) (kk : ∀ (H1 : Heap) (locs1 : List Loc), RC D cy A ad (st sg 208 j v) H1 → va_S A H0 H1 locs1 → W p l e R s m args below meth c H1 locs1 cells slots Q (F0 m (pc + 3) ls rest)) : W p l e R s m args below meth c H locs cells slots Q (F0 m pc ls ((.int (iI v)) :: .ref (ad 1 j) :: rest)) := by
  exact wr_put hexec hb hw tyX1 tyX1_ok nmX1 hown hK hR hS hd (fs := fsC1 ad sg j) rfl rfl 8 (by decide) hlink rfl (ty := .boolean) (by decide +kernel) (by rcases (show v = 0 ∨ v = 1 by omega) with z | z <;> subst z <;> rfl) (by rcases (show v = 0 ∨ v = 1 by omega) with z | z <;> subst z <;> rfl) (by show 8 < 11; decide) (cu_208 cy ad sg j v) d (fun H1 locs1 h1 h2 => kk H1 locs1 (wr_to h1 (dm_st (by decide)) (fun _ _ _ => ⟨rfl, rfl⟩)) h2)
theorem xg_209 (hexec : p.tables.exec = Jvm.exec) (hb : c.code = cc) {own : String} {index : Nat} (hw : ∀ w ∈ u_ws RX1 TX1 11, w.before args s = true) (hown : s.vm.findClass own = some m.cls) (hK : KC D cy s) (hR : RC D cy A ad sg H) {j : Int} (hd : dmC sg 1 j) (hlink : (Cond.fieldLink own index "Takinghall$Plot" "offeredTo" "LTakinghall$Interest;").before args s = true) {v : Int} (hv : sg 209 j = v) (d : decode cc pc = .ok (.getfield index, 3)) (kk : W p l e R s m args below meth c H locs cells slots Q (F0 m (pc + 3) ls (rv (ad 0) (v) :: rest))) : W p l e R s m args below meth c H locs cells slots Q (F0 m pc ls (.ref (ad 1 j) :: rest)) := by
  subst hv
  exact wr_get hexec hb hw hown hK hR hd (fs := fsC1 ad sg j) rfl rfl 9 (by decide) hlink rfl d kk
theorem xp_209 (hexec : p.tables.exec = Jvm.exec) (hb : c.code = cc) {own : String} {index : Nat} (hw : ∀ w ∈ u_ws RX1 TX1 11, w.before args s = true) (hown : s.vm.findClass own = some m.cls) (hK : KC D cy s) (hR : RC D cy A ad sg H) (hS : va_S A H0 H locs) {j v : Int} (hd : dmC sg 1 j) {x : Value} (hx : x = rv (ad 0) v) (hlink : (Cond.fieldLink own index "Takinghall$Plot" "offeredTo" "LTakinghall$Interest;").before args s = true) (d : decode cc pc = .ok (.putfield index, 3)) (kk : ∀ (H1 : Heap) (locs1 : List Loc), RC D cy A ad (st sg 209 j v) H1 → va_S A H0 H1 locs1 → W p l e R s m args below meth c H1 locs1 cells slots Q (F0 m (pc + 3) ls rest)) : W p l e R s m args below meth c H locs cells slots Q (F0 m pc ls (x :: .ref (ad 1 j) :: rest)) := by
  subst hx
  exact wr_put hexec hb hw tyX1 tyX1_ok nmX1 hown hK hR hS hd (fs := fsC1 ad sg j) rfl rfl 9 (by decide) hlink rfl (ty := (.object "Takinghall$Interest")) (by decide +kernel) (rv_fit _ _ _).1 (rv_fit _ _ _).2 (by show 9 < 11; decide) (cu_209 cy ad sg j v) d (fun H1 locs1 h1 h2 => kk H1 locs1 (wr_to h1 (dm_st (by decide)) (fun _ _ _ => ⟨rfl, rfl⟩)) h2)
theorem xg_210 (hexec : p.tables.exec = Jvm.exec) (hb : c.code = cc) {own : String} {index : Nat} (hw : ∀ w ∈ u_ws RX1 TX1 11, w.before args s = true) (hown : s.vm.findClass own = some m.cls) (hK : KC D cy s) (hR : RC D cy A ad sg H) {j : Int} (hd : dmC sg 1 j) (hlink : (Cond.fieldLink own index "Takinghall$Plot" "offerPrice" "I").before args s = true) {v : Int} (hv : sg 210 j = v) (d : decode cc pc = .ok (.getfield index, 3)) (kk : W p l e R s m args below meth c H locs cells slots Q (F0 m (pc + 3) ls (.int (iI (v)) :: rest))) : W p l e R s m args below meth c H locs cells slots Q (F0 m pc ls (.ref (ad 1 j) :: rest)) := by
  subst hv
  exact wr_get hexec hb hw hown hK hR hd (fs := fsC1 ad sg j) rfl rfl 10 (by decide) hlink rfl d kk
theorem xp_210 (hexec : p.tables.exec = Jvm.exec) (hb : c.code = cc) {own : String} {index : Nat} (hw : ∀ w ∈ u_ws RX1 TX1 11, w.before args s = true) (hown : s.vm.findClass own = some m.cls) (hK : KC D cy s) (hR : RC D cy A ad sg H) (hS : va_S A H0 H locs) {j v : Int} (hd : dmC sg 1 j) (hlink : (Cond.fieldLink own index "Takinghall$Plot" "offerPrice" "I").before args s = true) (d : decode cc pc = .ok (.putfield index, 3)) (kk : ∀ (H1 : Heap) (locs1 : List Loc), RC D cy A ad (st sg 210 j v) H1 → va_S A H0 H1 locs1 → W p l e R s m args below meth c H1 locs1 cells slots Q (F0 m (pc + 3) ls rest)) : W p l e R s m args below meth c H locs cells slots Q (F0 m pc ls ((.int (iI v)) :: .ref (ad 1 j) :: rest)) := by
  exact wr_put hexec hb hw tyX1 tyX1_ok nmX1 hown hK hR hS hd (fs := fsC1 ad sg j) rfl rfl 10 (by decide) hlink rfl (ty := .int) (by decide +kernel) rfl rfl (by show 10 < 11; decide) (cu_210 cy ad sg j v) d (fun H1 locs1 h1 h2 => kk H1 locs1 (wr_to h1 (dm_st (by decide)) (fun _ _ _ => ⟨rfl, rfl⟩)) h2)
theorem xg_300 (hexec : p.tables.exec = Jvm.exec) (hb : c.code = cc) {own : String} {index : Nat} (hw : ∀ w ∈ u_ws RX2 TX2 3, w.before args s = true) (hown : s.vm.findClass own = some m.cls) (hK : KC D cy s) (hR : RC D cy A ad sg H) {j : Int} (hd : dmC sg 2 j) (hlink : (Cond.fieldLink own index "Takinghall$Price" "day" "I").before args s = true) {v : Int} (hv : sg 300 j = v) (d : decode cc pc = .ok (.getfield index, 3)) (kk : W p l e R s m args below meth c H locs cells slots Q (F0 m (pc + 3) ls (.int (iI (v)) :: rest))) : W p l e R s m args below meth c H locs cells slots Q (F0 m pc ls (.ref (ad 2 j) :: rest)) := by
  subst hv
  exact wr_get hexec hb hw hown hK hR hd (fs := fsC2 ad sg j) rfl rfl 0 (by decide) hlink rfl d kk
theorem xg_301 (hexec : p.tables.exec = Jvm.exec) (hb : c.code = cc) {own : String} {index : Nat} (hw : ∀ w ∈ u_ws RX2 TX2 3, w.before args s = true) (hown : s.vm.findClass own = some m.cls) (hK : KC D cy s) (hR : RC D cy A ad sg H) {j : Int} (hd : dmC sg 2 j) (hlink : (Cond.fieldLink own index "Takinghall$Price" "cents" "I").before args s = true) {v : Int} (hv : sg 301 j = v) (d : decode cc pc = .ok (.getfield index, 3)) (kk : W p l e R s m args below meth c H locs cells slots Q (F0 m (pc + 3) ls (.int (iI (v)) :: rest))) : W p l e R s m args below meth c H locs cells slots Q (F0 m pc ls (.ref (ad 2 j) :: rest)) := by
  subst hv
  exact wr_get hexec hb hw hown hK hR hd (fs := fsC2 ad sg j) rfl rfl 1 (by decide) hlink rfl d kk
theorem xg_302 (hexec : p.tables.exec = Jvm.exec) (hb : c.code = cc) {own : String} {index : Nat} (hw : ∀ w ∈ u_ws RX2 TX2 3, w.before args s = true) (hown : s.vm.findClass own = some m.cls) (hK : KC D cy s) (hR : RC D cy A ad sg H) {j : Int} (hd : dmC sg 2 j) (hlink : (Cond.fieldLink own index "Takinghall$Price" "earlier" "LTakinghall$Price;").before args s = true) {v : Int} (hv : sg 302 j = v) (d : decode cc pc = .ok (.getfield index, 3)) (kk : W p l e R s m args below meth c H locs cells slots Q (F0 m (pc + 3) ls (rv (ad 2) (v) :: rest))) : W p l e R s m args below meth c H locs cells slots Q (F0 m pc ls (.ref (ad 2 j) :: rest)) := by
  subst hv
  exact wr_get hexec hb hw hown hK hR hd (fs := fsC2 ad sg j) rfl rfl 2 (by decide) hlink rfl d kk
theorem xg_400 (hexec : p.tables.exec = Jvm.exec) (hb : c.code = cc) {own : String} {index : Nat} (hw : ∀ w ∈ u_ws RX3 TX3 6, w.before args s = true) (hown : s.vm.findClass own = some m.cls) (hK : KC D cy s) (hR : RC D cy A ad sg H) {j : Int} (hd : dmC sg 3 j) (hlink : (Cond.fieldLink own index "Takinghall$Scheme" "number" "I").before args s = true) {v : Int} (hv : sg 400 j = v) (d : decode cc pc = .ok (.getfield index, 3)) (kk : W p l e R s m args below meth c H locs cells slots Q (F0 m (pc + 3) ls (.int (iI (v)) :: rest))) : W p l e R s m args below meth c H locs cells slots Q (F0 m pc ls (.ref (ad 3 j) :: rest)) := by
  subst hv
  exact wr_get hexec hb hw hown hK hR hd (fs := fsC3 ad sg j) rfl rfl 0 (by decide) hlink rfl d kk
theorem xg_401 (hexec : p.tables.exec = Jvm.exec) (hb : c.code = cc) {own : String} {index : Nat} (hw : ∀ w ∈ u_ws RX3 TX3 6, w.before args s = true) (hown : s.vm.findClass own = some m.cls) (hK : KC D cy s) (hR : RC D cy A ad sg H) {j : Int} (hd : dmC sg 3 j) (hlink : (Cond.fieldLink own index "Takinghall$Scheme" "harm" "I").before args s = true) {v : Int} (hv : sg 401 j = v) (d : decode cc pc = .ok (.getfield index, 3)) (kk : W p l e R s m args below meth c H locs cells slots Q (F0 m (pc + 3) ls (.int (iI (v)) :: rest))) : W p l e R s m args below meth c H locs cells slots Q (F0 m pc ls (.ref (ad 3 j) :: rest)) := by
  subst hv
  exact wr_get hexec hb hw hown hK hR hd (fs := fsC3 ad sg j) rfl rfl 1 (by decide) hlink rfl d kk
theorem xg_402 (hexec : p.tables.exec = Jvm.exec) (hb : c.code = cc) {own : String} {index : Nat} (hw : ∀ w ∈ u_ws RX3 TX3 6, w.before args s = true) (hown : s.vm.findClass own = some m.cls) (hK : KC D cy s) (hR : RC D cy A ad sg H) {j : Int} (hd : dmC sg 3 j) (hlink : (Cond.fieldLink own index "Takinghall$Scheme" "rise" "I").before args s = true) {v : Int} (hv : sg 402 j = v) (d : decode cc pc = .ok (.getfield index, 3)) (kk : W p l e R s m args below meth c H locs cells slots Q (F0 m (pc + 3) ls (.int (iI (v)) :: rest))) : W p l e R s m args below meth c H locs cells slots Q (F0 m pc ls (.ref (ad 3 j) :: rest)) := by
  subst hv
  exact wr_get hexec hb hw hown hK hR hd (fs := fsC3 ad sg j) rfl rfl 2 (by decide) hlink rfl d kk
theorem xg_403 (hexec : p.tables.exec = Jvm.exec) (hb : c.code = cc) {own : String} {index : Nat} (hw : ∀ w ∈ u_ws RX3 TX3 6, w.before args s = true) (hown : s.vm.findClass own = some m.cls) (hK : KC D cy s) (hR : RC D cy A ad sg H) {j : Int} (hd : dmC sg 3 j) (hlink : (Cond.fieldLink own index "Takinghall$Scheme" "state" "I").before args s = true) {v : Int} (hv : sg 403 j = v) (d : decode cc pc = .ok (.getfield index, 3)) (kk : W p l e R s m args below meth c H locs cells slots Q (F0 m (pc + 3) ls (.int (iI (v)) :: rest))) : W p l e R s m args below meth c H locs cells slots Q (F0 m pc ls (.ref (ad 3 j) :: rest)) := by
  subst hv
  exact wr_get hexec hb hw hown hK hR hd (fs := fsC3 ad sg j) rfl rfl 3 (by decide) hlink rfl d kk
theorem xp_403 (hexec : p.tables.exec = Jvm.exec) (hb : c.code = cc) {own : String} {index : Nat} (hw : ∀ w ∈ u_ws RX3 TX3 6, w.before args s = true) (hown : s.vm.findClass own = some m.cls) (hK : KC D cy s) (hR : RC D cy A ad sg H) (hS : va_S A H0 H locs) {j v : Int} (hd : dmC sg 3 j) (hlink : (Cond.fieldLink own index "Takinghall$Scheme" "state" "I").before args s = true) (d : decode cc pc = .ok (.putfield index, 3)) (kk : ∀ (H1 : Heap) (locs1 : List Loc), RC D cy A ad (st sg 403 j v) H1 → va_S A H0 H1 locs1 → W p l e R s m args below meth c H1 locs1 cells slots Q (F0 m (pc + 3) ls rest)) : W p l e R s m args below meth c H locs cells slots Q (F0 m pc ls ((.int (iI v)) :: .ref (ad 3 j) :: rest)) := by
  exact wr_put hexec hb hw tyX3 tyX3_ok nmX3 hown hK hR hS hd (fs := fsC3 ad sg j) rfl rfl 3 (by decide) hlink rfl (ty := .int) (by decide +kernel) rfl rfl (by show 3 < 6; decide) (cu_403 cy ad sg j v) d (fun H1 locs1 h1 h2 => kk H1 locs1 (wr_to h1 (dm_st (by decide)) (fun _ _ _ => ⟨rfl, rfl⟩)) h2)
theorem xg_404 (hexec : p.tables.exec = Jvm.exec) (hb : c.code = cc) {own : String} {index : Nat} (hw : ∀ w ∈ u_ws RX3 TX3 6, w.before args s = true) (hown : s.vm.findClass own = some m.cls) (hK : KC D cy s) (hR : RC D cy A ad sg H) {j : Int} (hd : dmC sg 3 j) (hlink : (Cond.fieldLink own index "Takinghall$Scheme" "confirmDay" "I").before args s = true) {v : Int} (hv : sg 404 j = v) (d : decode cc pc = .ok (.getfield index, 3)) (kk : W p l e R s m args below meth c H locs cells slots Q (F0 m (pc + 3) ls (.int (iI (v)) :: rest))) : W p l e R s m args below meth c H locs cells slots Q (F0 m pc ls (.ref (ad 3 j) :: rest)) := by
  subst hv
  exact wr_get hexec hb hw hown hK hR hd (fs := fsC3 ad sg j) rfl rfl 4 (by decide) hlink rfl d kk
theorem xp_404 (hexec : p.tables.exec = Jvm.exec) (hb : c.code = cc) {own : String} {index : Nat} (hw : ∀ w ∈ u_ws RX3 TX3 6, w.before args s = true) (hown : s.vm.findClass own = some m.cls) (hK : KC D cy s) (hR : RC D cy A ad sg H) (hS : va_S A H0 H locs) {j v : Int} (hd : dmC sg 3 j) (hlink : (Cond.fieldLink own index "Takinghall$Scheme" "confirmDay" "I").before args s = true) (d : decode cc pc = .ok (.putfield index, 3)) (kk : ∀ (H1 : Heap) (locs1 : List Loc), RC D cy A ad (st sg 404 j v) H1 → va_S A H0 H1 locs1 → W p l e R s m args below meth c H1 locs1 cells slots Q (F0 m (pc + 3) ls rest)) : W p l e R s m args below meth c H locs cells slots Q (F0 m pc ls ((.int (iI v)) :: .ref (ad 3 j) :: rest)) := by
  exact wr_put hexec hb hw tyX3 tyX3_ok nmX3 hown hK hR hS hd (fs := fsC3 ad sg j) rfl rfl 4 (by decide) hlink rfl (ty := .int) (by decide +kernel) rfl rfl (by show 4 < 6; decide) (cu_404 cy ad sg j v) d (fun H1 locs1 h1 h2 => kk H1 locs1 (wr_to h1 (dm_st (by decide)) (fun _ _ _ => ⟨rfl, rfl⟩)) h2)
theorem xg_405 (hexec : p.tables.exec = Jvm.exec) (hb : c.code = cc) {own : String} {index : Nat} (hw : ∀ w ∈ u_ws RX3 TX3 6, w.before args s = true) (hown : s.vm.findClass own = some m.cls) (hK : KC D cy s) (hR : RC D cy A ad sg H) {j : Int} (hd : dmC sg 3 j) (hlink : (Cond.fieldLink own index "Takinghall$Scheme" "dropDay" "I").before args s = true) {v : Int} (hv : sg 405 j = v) (d : decode cc pc = .ok (.getfield index, 3)) (kk : W p l e R s m args below meth c H locs cells slots Q (F0 m (pc + 3) ls (.int (iI (v)) :: rest))) : W p l e R s m args below meth c H locs cells slots Q (F0 m pc ls (.ref (ad 3 j) :: rest)) := by
  subst hv
  exact wr_get hexec hb hw hown hK hR hd (fs := fsC3 ad sg j) rfl rfl 5 (by decide) hlink rfl d kk
theorem xp_405 (hexec : p.tables.exec = Jvm.exec) (hb : c.code = cc) {own : String} {index : Nat} (hw : ∀ w ∈ u_ws RX3 TX3 6, w.before args s = true) (hown : s.vm.findClass own = some m.cls) (hK : KC D cy s) (hR : RC D cy A ad sg H) (hS : va_S A H0 H locs) {j v : Int} (hd : dmC sg 3 j) (hlink : (Cond.fieldLink own index "Takinghall$Scheme" "dropDay" "I").before args s = true) (d : decode cc pc = .ok (.putfield index, 3)) (kk : ∀ (H1 : Heap) (locs1 : List Loc), RC D cy A ad (st sg 405 j v) H1 → va_S A H0 H1 locs1 → W p l e R s m args below meth c H1 locs1 cells slots Q (F0 m (pc + 3) ls rest)) : W p l e R s m args below meth c H locs cells slots Q (F0 m pc ls ((.int (iI v)) :: .ref (ad 3 j) :: rest)) := by
  exact wr_put hexec hb hw tyX3 tyX3_ok nmX3 hown hK hR hS hd (fs := fsC3 ad sg j) rfl rfl 5 (by decide) hlink rfl (ty := .int) (by decide +kernel) rfl rfl (by show 5 < 6; decide) (cu_405 cy ad sg j v) d (fun H1 locs1 h1 h2 => kk H1 locs1 (wr_to h1 (dm_st (by decide)) (fun _ _ _ => ⟨rfl, rfl⟩)) h2)
theorem xg_500 (hexec : p.tables.exec = Jvm.exec) (hb : c.code = cc) {own : String} {index : Nat} (hw : ∀ w ∈ u_ws RX4 TX4 12, w.before args s = true) (hown : s.vm.findClass own = some m.cls) (hK : KC D cy s) (hR : RC D cy A ad sg H) {j : Int} (hd : dmC sg 4 j) (hlink : (Cond.fieldLink own index "Takinghall" "plots" "[LTakinghall$Plot;").before args s = true) {v : Int} (hv : sg 500 j = v) (d : decode cc pc = .ok (.getfield index, 3)) (kk : W p l e R s m args below meth c H locs cells slots Q (F0 m (pc + 3) ls (rv (ad 10) (v) :: rest))) : W p l e R s m args below meth c H locs cells slots Q (F0 m pc ls (.ref (ad 4 j) :: rest)) := by
  subst hv
  exact wr_get hexec hb hw hown hK hR hd (fs := fsC4 ad sg j) rfl rfl 0 (by decide) hlink rfl d kk
theorem xg_501 (hexec : p.tables.exec = Jvm.exec) (hb : c.code = cc) {own : String} {index : Nat} (hw : ∀ w ∈ u_ws RX4 TX4 12, w.before args s = true) (hown : s.vm.findClass own = some m.cls) (hK : KC D cy s) (hR : RC D cy A ad sg H) {j : Int} (hd : dmC sg 4 j) (hlink : (Cond.fieldLink own index "Takinghall" "latestPrices" "[LTakinghall$Price;").before args s = true) {v : Int} (hv : sg 501 j = v) (d : decode cc pc = .ok (.getfield index, 3)) (kk : W p l e R s m args below meth c H locs cells slots Q (F0 m (pc + 3) ls (rv (ad 11) (v) :: rest))) : W p l e R s m args below meth c H locs cells slots Q (F0 m pc ls (.ref (ad 4 j) :: rest)) := by
  subst hv
  exact wr_get hexec hb hw hown hK hR hd (fs := fsC4 ad sg j) rfl rfl 1 (by decide) hlink rfl d kk
theorem xg_502 (hexec : p.tables.exec = Jvm.exec) (hb : c.code = cc) {own : String} {index : Nat} (hw : ∀ w ∈ u_ws RX4 TX4 12, w.before args s = true) (hown : s.vm.findClass own = some m.cls) (hK : KC D cy s) (hR : RC D cy A ad sg H) {j : Int} (hd : dmC sg 4 j) (hlink : (Cond.fieldLink own index "Takinghall" "interests" "[LTakinghall$Interest;").before args s = true) {v : Int} (hv : sg 502 j = v) (d : decode cc pc = .ok (.getfield index, 3)) (kk : W p l e R s m args below meth c H locs cells slots Q (F0 m (pc + 3) ls (rv (ad 9) (v) :: rest))) : W p l e R s m args below meth c H locs cells slots Q (F0 m pc ls (.ref (ad 4 j) :: rest)) := by
  subst hv
  exact wr_get hexec hb hw hown hK hR hd (fs := fsC4 ad sg j) rfl rfl 2 (by decide) hlink rfl d kk
theorem xg_503 (hexec : p.tables.exec = Jvm.exec) (hb : c.code = cc) {own : String} {index : Nat} (hw : ∀ w ∈ u_ws RX4 TX4 12, w.before args s = true) (hown : s.vm.findClass own = some m.cls) (hK : KC D cy s) (hR : RC D cy A ad sg H) {j : Int} (hd : dmC sg 4 j) (hlink : (Cond.fieldLink own index "Takinghall" "interestCount" "I").before args s = true) {v : Int} (hv : sg 503 j = v) (d : decode cc pc = .ok (.getfield index, 3)) (kk : W p l e R s m args below meth c H locs cells slots Q (F0 m (pc + 3) ls (.int (iI (v)) :: rest))) : W p l e R s m args below meth c H locs cells slots Q (F0 m pc ls (.ref (ad 4 j) :: rest)) := by
  subst hv
  exact wr_get hexec hb hw hown hK hR hd (fs := fsC4 ad sg j) rfl rfl 3 (by decide) hlink rfl d kk
theorem xp_503 (hexec : p.tables.exec = Jvm.exec) (hb : c.code = cc) {own : String} {index : Nat} (hw : ∀ w ∈ u_ws RX4 TX4 12, w.before args s = true) (hown : s.vm.findClass own = some m.cls) (hK : KC D cy s) (hR : RC D cy A ad sg H) (hS : va_S A H0 H locs) {j v : Int} (hd : dmC sg 4 j) (hlink : (Cond.fieldLink own index "Takinghall" "interestCount" "I").before args s = true) (d : decode cc pc = .ok (.putfield index, 3)) (kk : ∀ (H1 : Heap) (locs1 : List Loc), RC D cy A ad (st sg 503 j v) H1 → va_S A H0 H1 locs1 → W p l e R s m args below meth c H1 locs1 cells slots Q (F0 m (pc + 3) ls rest)) : W p l e R s m args below meth c H locs cells slots Q (F0 m pc ls ((.int (iI v)) :: .ref (ad 4 j) :: rest)) := by
  exact wr_put hexec hb hw tyX4 tyX4_ok nmX4 hown hK hR hS hd (fs := fsC4 ad sg j) rfl rfl 3 (by decide) hlink rfl (ty := .int) (by decide +kernel) rfl rfl (by show 3 < 12; decide) (cu_503 cy ad sg j v) d (fun H1 locs1 h1 h2 => kk H1 locs1 (wr_to h1 (dm_st (by decide)) (fun _ _ _ => ⟨rfl, rfl⟩)) h2)
theorem xg_504 (hexec : p.tables.exec = Jvm.exec) (hb : c.code = cc) {own : String} {index : Nat} (hw : ∀ w ∈ u_ws RX4 TX4 12, w.before args s = true) (hown : s.vm.findClass own = some m.cls) (hK : KC D cy s) (hR : RC D cy A ad sg H) {j : Int} (hd : dmC sg 4 j) (hlink : (Cond.fieldLink own index "Takinghall" "schemes" "[LTakinghall$Scheme;").before args s = true) {v : Int} (hv : sg 504 j = v) (d : decode cc pc = .ok (.getfield index, 3)) (kk : W p l e R s m args below meth c H locs cells slots Q (F0 m (pc + 3) ls (rv (ad 12) (v) :: rest))) : W p l e R s m args below meth c H locs cells slots Q (F0 m pc ls (.ref (ad 4 j) :: rest)) := by
  subst hv
  exact wr_get hexec hb hw hown hK hR hd (fs := fsC4 ad sg j) rfl rfl 4 (by decide) hlink rfl d kk
theorem xg_505 (hexec : p.tables.exec = Jvm.exec) (hb : c.code = cc) {own : String} {index : Nat} (hw : ∀ w ∈ u_ws RX4 TX4 12, w.before args s = true) (hown : s.vm.findClass own = some m.cls) (hK : KC D cy s) (hR : RC D cy A ad sg H) {j : Int} (hd : dmC sg 4 j) (hlink : (Cond.fieldLink own index "Takinghall" "schemeCount" "I").before args s = true) {v : Int} (hv : sg 505 j = v) (d : decode cc pc = .ok (.getfield index, 3)) (kk : W p l e R s m args below meth c H locs cells slots Q (F0 m (pc + 3) ls (.int (iI (v)) :: rest))) : W p l e R s m args below meth c H locs cells slots Q (F0 m pc ls (.ref (ad 4 j) :: rest)) := by
  subst hv
  exact wr_get hexec hb hw hown hK hR hd (fs := fsC4 ad sg j) rfl rfl 5 (by decide) hlink rfl d kk
theorem xp_505 (hexec : p.tables.exec = Jvm.exec) (hb : c.code = cc) {own : String} {index : Nat} (hw : ∀ w ∈ u_ws RX4 TX4 12, w.before args s = true) (hown : s.vm.findClass own = some m.cls) (hK : KC D cy s) (hR : RC D cy A ad sg H) (hS : va_S A H0 H locs) {j v : Int} (hd : dmC sg 4 j) (hlink : (Cond.fieldLink own index "Takinghall" "schemeCount" "I").before args s = true) (d : decode cc pc = .ok (.putfield index, 3)) (kk : ∀ (H1 : Heap) (locs1 : List Loc), RC D cy A ad (st sg 505 j v) H1 → va_S A H0 H1 locs1 → W p l e R s m args below meth c H1 locs1 cells slots Q (F0 m (pc + 3) ls rest)) : W p l e R s m args below meth c H locs cells slots Q (F0 m pc ls ((.int (iI v)) :: .ref (ad 4 j) :: rest)) := by
  exact wr_put hexec hb hw tyX4 tyX4_ok nmX4 hown hK hR hS hd (fs := fsC4 ad sg j) rfl rfl 5 (by decide) hlink rfl (ty := .int) (by decide +kernel) rfl rfl (by show 5 < 12; decide) (cu_505 cy ad sg j v) d (fun H1 locs1 h1 h2 => kk H1 locs1 (wr_to h1 (dm_st (by decide)) (fun _ _ _ => ⟨rfl, rfl⟩)) h2)
theorem xg_506 (hexec : p.tables.exec = Jvm.exec) (hb : c.code = cc) {own : String} {index : Nat} (hw : ∀ w ∈ u_ws RX4 TX4 12, w.before args s = true) (hown : s.vm.findClass own = some m.cls) (hK : KC D cy s) (hR : RC D cy A ad sg H) {j : Int} (hd : dmC sg 4 j) (hlink : (Cond.fieldLink own index "Takinghall" "now" "I").before args s = true) {v : Int} (hv : sg 506 j = v) (d : decode cc pc = .ok (.getfield index, 3)) (kk : W p l e R s m args below meth c H locs cells slots Q (F0 m (pc + 3) ls (.int (iI (v)) :: rest))) : W p l e R s m args below meth c H locs cells slots Q (F0 m pc ls (.ref (ad 4 j) :: rest)) := by
  subst hv
  exact wr_get hexec hb hw hown hK hR hd (fs := fsC4 ad sg j) rfl rfl 6 (by decide) hlink rfl d kk
theorem xp_506 (hexec : p.tables.exec = Jvm.exec) (hb : c.code = cc) {own : String} {index : Nat} (hw : ∀ w ∈ u_ws RX4 TX4 12, w.before args s = true) (hown : s.vm.findClass own = some m.cls) (hK : KC D cy s) (hR : RC D cy A ad sg H) (hS : va_S A H0 H locs) {j v : Int} (hd : dmC sg 4 j) (hlink : (Cond.fieldLink own index "Takinghall" "now" "I").before args s = true) (d : decode cc pc = .ok (.putfield index, 3)) (kk : ∀ (H1 : Heap) (locs1 : List Loc), RC D cy A ad (st sg 506 j v) H1 → va_S A H0 H1 locs1 → W p l e R s m args below meth c H1 locs1 cells slots Q (F0 m (pc + 3) ls rest)) : W p l e R s m args below meth c H locs cells slots Q (F0 m pc ls ((.int (iI v)) :: .ref (ad 4 j) :: rest)) := by
  exact wr_put hexec hb hw tyX4 tyX4_ok nmX4 hown hK hR hS hd (fs := fsC4 ad sg j) rfl rfl 6 (by decide) hlink rfl (ty := .int) (by decide +kernel) rfl rfl (by show 6 < 12; decide) (cu_506 cy ad sg j v) d (fun H1 locs1 h1 h2 => kk H1 locs1 (wr_to h1 (dm_st (by decide)) (fun _ _ _ => ⟨rfl, rfl⟩)) h2)
theorem xg_507 (hexec : p.tables.exec = Jvm.exec) (hb : c.code = cc) {own : String} {index : Nat} (hw : ∀ w ∈ u_ws RX4 TX4 12, w.before args s = true) (hown : s.vm.findClass own = some m.cls) (hK : KC D cy s) (hR : RC D cy A ad sg H) {j : Int} (hd : dmC sg 4 j) (hlink : (Cond.fieldLink own index "Takinghall" "allSums" "J").before args s = true) {v : Int} (hv : sg 507 j = v) (d : decode cc pc = .ok (.getfield index, 3)) (kk : W p l e R s m args below meth c H locs cells slots Q (F0 m (pc + 3) ls (.long (lI (v)) :: rest))) : W p l e R s m args below meth c H locs cells slots Q (F0 m pc ls (.ref (ad 4 j) :: rest)) := by
  subst hv
  exact wr_get hexec hb hw hown hK hR hd (fs := fsC4 ad sg j) rfl rfl 7 (by decide) hlink rfl d kk
theorem xp_507 (hexec : p.tables.exec = Jvm.exec) (hb : c.code = cc) {own : String} {index : Nat} (hw : ∀ w ∈ u_ws RX4 TX4 12, w.before args s = true) (hown : s.vm.findClass own = some m.cls) (hK : KC D cy s) (hR : RC D cy A ad sg H) (hS : va_S A H0 H locs) {j v : Int} (hd : dmC sg 4 j) (hlink : (Cond.fieldLink own index "Takinghall" "allSums" "J").before args s = true) (d : decode cc pc = .ok (.putfield index, 3)) (kk : ∀ (H1 : Heap) (locs1 : List Loc), RC D cy A ad (st sg 507 j v) H1 → va_S A H0 H1 locs1 → W p l e R s m args below meth c H1 locs1 cells slots Q (F0 m (pc + 3) ls rest)) : W p l e R s m args below meth c H locs cells slots Q (F0 m pc ls ((.long (lI v)) :: .ref (ad 4 j) :: rest)) := by
  exact wr_put hexec hb hw tyX4 tyX4_ok nmX4 hown hK hR hS hd (fs := fsC4 ad sg j) rfl rfl 7 (by decide) hlink rfl (ty := .long) (by decide +kernel) rfl rfl (by show 7 < 12; decide) (cu_507 cy ad sg j v) d (fun H1 locs1 h1 h2 => kk H1 locs1 (wr_to h1 (dm_st (by decide)) (fun _ _ _ => ⟨rfl, rfl⟩)) h2)
theorem xg_508 (hexec : p.tables.exec = Jvm.exec) (hb : c.code = cc) {own : String} {index : Nat} (hw : ∀ w ∈ u_ws RX4 TX4 12, w.before args s = true) (hown : s.vm.findClass own = some m.cls) (hK : KC D cy s) (hR : RC D cy A ad sg H) {j : Int} (hd : dmC sg 4 j) (hlink : (Cond.fieldLink own index "Takinghall" "allPaid" "J").before args s = true) {v : Int} (hv : sg 508 j = v) (d : decode cc pc = .ok (.getfield index, 3)) (kk : W p l e R s m args below meth c H locs cells slots Q (F0 m (pc + 3) ls (.long (lI (v)) :: rest))) : W p l e R s m args below meth c H locs cells slots Q (F0 m pc ls (.ref (ad 4 j) :: rest)) := by
  subst hv
  exact wr_get hexec hb hw hown hK hR hd (fs := fsC4 ad sg j) rfl rfl 8 (by decide) hlink rfl d kk
theorem xp_508 (hexec : p.tables.exec = Jvm.exec) (hb : c.code = cc) {own : String} {index : Nat} (hw : ∀ w ∈ u_ws RX4 TX4 12, w.before args s = true) (hown : s.vm.findClass own = some m.cls) (hK : KC D cy s) (hR : RC D cy A ad sg H) (hS : va_S A H0 H locs) {j v : Int} (hd : dmC sg 4 j) (hlink : (Cond.fieldLink own index "Takinghall" "allPaid" "J").before args s = true) (d : decode cc pc = .ok (.putfield index, 3)) (kk : ∀ (H1 : Heap) (locs1 : List Loc), RC D cy A ad (st sg 508 j v) H1 → va_S A H0 H1 locs1 → W p l e R s m args below meth c H1 locs1 cells slots Q (F0 m (pc + 3) ls rest)) : W p l e R s m args below meth c H locs cells slots Q (F0 m pc ls ((.long (lI v)) :: .ref (ad 4 j) :: rest)) := by
  exact wr_put hexec hb hw tyX4 tyX4_ok nmX4 hown hK hR hS hd (fs := fsC4 ad sg j) rfl rfl 8 (by decide) hlink rfl (ty := .long) (by decide +kernel) rfl rfl (by show 8 < 12; decide) (cu_508 cy ad sg j v) d (fun H1 locs1 h1 h2 => kk H1 locs1 (wr_to h1 (dm_st (by decide)) (fun _ _ _ => ⟨rfl, rfl⟩)) h2)
theorem xg_509 (hexec : p.tables.exec = Jvm.exec) (hb : c.code = cc) {own : String} {index : Nat} (hw : ∀ w ∈ u_ws RX4 TX4 12, w.before args s = true) (hown : s.vm.findClass own = some m.cls) (hK : KC D cy s) (hR : RC D cy A ad sg H) {j : Int} (hd : dmC sg 4 j) (hlink : (Cond.fieldLink own index "Takinghall" "inCourt" "J").before args s = true) {v : Int} (hv : sg 509 j = v) (d : decode cc pc = .ok (.getfield index, 3)) (kk : W p l e R s m args below meth c H locs cells slots Q (F0 m (pc + 3) ls (.long (lI (v)) :: rest))) : W p l e R s m args below meth c H locs cells slots Q (F0 m pc ls (.ref (ad 4 j) :: rest)) := by
  subst hv
  exact wr_get hexec hb hw hown hK hR hd (fs := fsC4 ad sg j) rfl rfl 9 (by decide) hlink rfl d kk
theorem xp_509 (hexec : p.tables.exec = Jvm.exec) (hb : c.code = cc) {own : String} {index : Nat} (hw : ∀ w ∈ u_ws RX4 TX4 12, w.before args s = true) (hown : s.vm.findClass own = some m.cls) (hK : KC D cy s) (hR : RC D cy A ad sg H) (hS : va_S A H0 H locs) {j v : Int} (hd : dmC sg 4 j) (hlink : (Cond.fieldLink own index "Takinghall" "inCourt" "J").before args s = true) (d : decode cc pc = .ok (.putfield index, 3)) (kk : ∀ (H1 : Heap) (locs1 : List Loc), RC D cy A ad (st sg 509 j v) H1 → va_S A H0 H1 locs1 → W p l e R s m args below meth c H1 locs1 cells slots Q (F0 m (pc + 3) ls rest)) : W p l e R s m args below meth c H locs cells slots Q (F0 m pc ls ((.long (lI v)) :: .ref (ad 4 j) :: rest)) := by
  exact wr_put hexec hb hw tyX4 tyX4_ok nmX4 hown hK hR hS hd (fs := fsC4 ad sg j) rfl rfl 9 (by decide) hlink rfl (ty := .long) (by decide +kernel) rfl rfl (by show 9 < 12; decide) (cu_509 cy ad sg j v) d (fun H1 locs1 h1 h2 => kk H1 locs1 (wr_to h1 (dm_st (by decide)) (fun _ _ _ => ⟨rfl, rfl⟩)) h2)
theorem xg_510 (hexec : p.tables.exec = Jvm.exec) (hb : c.code = cc) {own : String} {index : Nat} (hw : ∀ w ∈ u_ws RX4 TX4 12, w.before args s = true) (hown : s.vm.findClass own = some m.cls) (hK : KC D cy s) (hR : RC D cy A ad sg H) {j : Int} (hd : dmC sg 4 j) (hlink : (Cond.fieldLink own index "Takinghall" "paidForBack" "J").before args s = true) {v : Int} (hv : sg 510 j = v) (d : decode cc pc = .ok (.getfield index, 3)) (kk : W p l e R s m args below meth c H locs cells slots Q (F0 m (pc + 3) ls (.long (lI (v)) :: rest))) : W p l e R s m args below meth c H locs cells slots Q (F0 m pc ls (.ref (ad 4 j) :: rest)) := by
  subst hv
  exact wr_get hexec hb hw hown hK hR hd (fs := fsC4 ad sg j) rfl rfl 10 (by decide) hlink rfl d kk
theorem xp_510 (hexec : p.tables.exec = Jvm.exec) (hb : c.code = cc) {own : String} {index : Nat} (hw : ∀ w ∈ u_ws RX4 TX4 12, w.before args s = true) (hown : s.vm.findClass own = some m.cls) (hK : KC D cy s) (hR : RC D cy A ad sg H) (hS : va_S A H0 H locs) {j v : Int} (hd : dmC sg 4 j) (hlink : (Cond.fieldLink own index "Takinghall" "paidForBack" "J").before args s = true) (d : decode cc pc = .ok (.putfield index, 3)) (kk : ∀ (H1 : Heap) (locs1 : List Loc), RC D cy A ad (st sg 510 j v) H1 → va_S A H0 H1 locs1 → W p l e R s m args below meth c H1 locs1 cells slots Q (F0 m (pc + 3) ls rest)) : W p l e R s m args below meth c H locs cells slots Q (F0 m pc ls ((.long (lI v)) :: .ref (ad 4 j) :: rest)) := by
  exact wr_put hexec hb hw tyX4 tyX4_ok nmX4 hown hK hR hS hd (fs := fsC4 ad sg j) rfl rfl 10 (by decide) hlink rfl (ty := .long) (by decide +kernel) rfl rfl (by show 10 < 12; decide) (cu_510 cy ad sg j v) d (fun H1 locs1 h1 h2 => kk H1 locs1 (wr_to h1 (dm_st (by decide)) (fun _ _ _ => ⟨rfl, rfl⟩)) h2)
theorem xg_511 (hexec : p.tables.exec = Jvm.exec) (hb : c.code = cc) {own : String} {index : Nat} (hw : ∀ w ∈ u_ws RX4 TX4 12, w.before args s = true) (hown : s.vm.findClass own = some m.cls) (hK : KC D cy s) (hR : RC D cy A ad sg H) {j : Int} (hd : dmC sg 4 j) (hlink : (Cond.fieldLink own index "Takinghall" "allLand" "J").before args s = true) {v : Int} (hv : sg 511 j = v) (d : decode cc pc = .ok (.getfield index, 3)) (kk : W p l e R s m args below meth c H locs cells slots Q (F0 m (pc + 3) ls (.long (lI (v)) :: rest))) : W p l e R s m args below meth c H locs cells slots Q (F0 m pc ls (.ref (ad 4 j) :: rest)) := by
  subst hv
  exact wr_get hexec hb hw hown hK hR hd (fs := fsC4 ad sg j) rfl rfl 11 (by decide) hlink rfl d kk
theorem xp_511 (hexec : p.tables.exec = Jvm.exec) (hb : c.code = cc) {own : String} {index : Nat} (hw : ∀ w ∈ u_ws RX4 TX4 12, w.before args s = true) (hown : s.vm.findClass own = some m.cls) (hK : KC D cy s) (hR : RC D cy A ad sg H) (hS : va_S A H0 H locs) {j v : Int} (hd : dmC sg 4 j) (hlink : (Cond.fieldLink own index "Takinghall" "allLand" "J").before args s = true) (d : decode cc pc = .ok (.putfield index, 3)) (kk : ∀ (H1 : Heap) (locs1 : List Loc), RC D cy A ad (st sg 511 j v) H1 → va_S A H0 H1 locs1 → W p l e R s m args below meth c H1 locs1 cells slots Q (F0 m (pc + 3) ls rest)) : W p l e R s m args below meth c H locs cells slots Q (F0 m pc ls ((.long (lI v)) :: .ref (ad 4 j) :: rest)) := by
  exact wr_put hexec hb hw tyX4 tyX4_ok nmX4 hown hK hR hS hd (fs := fsC4 ad sg j) rfl rfl 11 (by decide) hlink rfl (ty := .long) (by decide +kernel) rfl rfl (by show 11 < 12; decide) (cu_511 cy ad sg j v) d (fun H1 locs1 h1 h2 => kk H1 locs1 (wr_to h1 (dm_st (by decide)) (fun _ _ _ => ⟨rfl, rfl⟩)) h2)
theorem xl_600 (hexec : p.tables.exec = Jvm.exec) (hb : c.code = cc) (hK : KC D cy s) (hR : RC D cy A ad sg H) {j : Int} (hd : dmC sg 9 j) (d : decode cc pc = .ok (.arraylength, 1)) (kk : W p l e R s m args below meth c H locs cells slots Q (F0 m (pc + 1) ls (.int (iI 24) :: rest))) : W p l e R s m args below meth c H locs cells slots Q (F0 m pc ls (.ref (ad 9 j) :: rest)) :=
  wr_alen hexec hb hK hR hd rfl 3 rfl rfl d kk
theorem xa_600 (hexec : p.tables.exec = Jvm.exec) (hb : c.code = cc) (hK : KC D cy s) (hR : RC D cy A ad sg H) {j : Int} (hd : dmC sg 9 j) {i : Int} (hi : 0 ≤ i ∧ i < 24) {v : Int} (hv : sg 600 i = v) (d : decode cc pc = .ok (.aaload, 1)) (kk : W p l e R s m args below meth c H locs cells slots Q (F0 m (pc + 1) ls (rv (ad 0) v :: rest))) : W p l e R s m args below meth c H locs cells slots Q (F0 m pc ls (.int (iI i) :: .ref (ad 9 j) :: rest)) := by
  subst hv
  exact wr_aald hexec hb hK hR hd rfl 3 rfl hi (by decide) (by show ro (ad 0) (sg 600 (i.toNat : Int)) = _; rw [Int.toNat_of_nonneg hi.1]) d kk
theorem xl_601 (hexec : p.tables.exec = Jvm.exec) (hb : c.code = cc) (hK : KC D cy s) (hR : RC D cy A ad sg H) {j : Int} (hd : dmC sg 10 j) (d : decode cc pc = .ok (.arraylength, 1)) (kk : W p l e R s m args below meth c H locs cells slots Q (F0 m (pc + 1) ls (.int (iI 36) :: rest))) : W p l e R s m args below meth c H locs cells slots Q (F0 m pc ls (.ref (ad 10 j) :: rest)) :=
  wr_alen hexec hb hK hR hd rfl 4 rfl rfl d kk
theorem xa_601 (hexec : p.tables.exec = Jvm.exec) (hb : c.code = cc) (hK : KC D cy s) (hR : RC D cy A ad sg H) {j : Int} (hd : dmC sg 10 j) {i : Int} (hi : 0 ≤ i ∧ i < 36) {v : Int} (hv : sg 601 i = v) (d : decode cc pc = .ok (.aaload, 1)) (kk : W p l e R s m args below meth c H locs cells slots Q (F0 m (pc + 1) ls (rv (ad 1) v :: rest))) : W p l e R s m args below meth c H locs cells slots Q (F0 m pc ls (.int (iI i) :: .ref (ad 10 j) :: rest)) := by
  subst hv
  exact wr_aald hexec hb hK hR hd rfl 4 rfl hi (by decide) (by show ro (ad 1) (sg 601 (i.toNat : Int)) = _; rw [Int.toNat_of_nonneg hi.1]) d kk
theorem xl_602 (hexec : p.tables.exec = Jvm.exec) (hb : c.code = cc) (hK : KC D cy s) (hR : RC D cy A ad sg H) {j : Int} (hd : dmC sg 11 j) (d : decode cc pc = .ok (.arraylength, 1)) (kk : W p l e R s m args below meth c H locs cells slots Q (F0 m (pc + 1) ls (.int (iI 3) :: rest))) : W p l e R s m args below meth c H locs cells slots Q (F0 m pc ls (.ref (ad 11 j) :: rest)) :=
  wr_alen hexec hb hK hR hd rfl 5 rfl rfl d kk
theorem xa_602 (hexec : p.tables.exec = Jvm.exec) (hb : c.code = cc) (hK : KC D cy s) (hR : RC D cy A ad sg H) {j : Int} (hd : dmC sg 11 j) {i : Int} (hi : 0 ≤ i ∧ i < 3) {v : Int} (hv : sg 602 i = v) (d : decode cc pc = .ok (.aaload, 1)) (kk : W p l e R s m args below meth c H locs cells slots Q (F0 m (pc + 1) ls (rv (ad 2) v :: rest))) : W p l e R s m args below meth c H locs cells slots Q (F0 m pc ls (.int (iI i) :: .ref (ad 11 j) :: rest)) := by
  subst hv
  exact wr_aald hexec hb hK hR hd rfl 5 rfl hi (by decide) (by show ro (ad 2) (sg 602 (i.toNat : Int)) = _; rw [Int.toNat_of_nonneg hi.1]) d kk
theorem xl_603 (hexec : p.tables.exec = Jvm.exec) (hb : c.code = cc) (hK : KC D cy s) (hR : RC D cy A ad sg H) {j : Int} (hd : dmC sg 12 j) (d : decode cc pc = .ok (.arraylength, 1)) (kk : W p l e R s m args below meth c H locs cells slots Q (F0 m (pc + 1) ls (.int (iI 4) :: rest))) : W p l e R s m args below meth c H locs cells slots Q (F0 m pc ls (.ref (ad 12 j) :: rest)) :=
  wr_alen hexec hb hK hR hd rfl 6 rfl rfl d kk
theorem xa_603 (hexec : p.tables.exec = Jvm.exec) (hb : c.code = cc) (hK : KC D cy s) (hR : RC D cy A ad sg H) {j : Int} (hd : dmC sg 12 j) {i : Int} (hi : 0 ≤ i ∧ i < 4) {v : Int} (hv : sg 603 i = v) (d : decode cc pc = .ok (.aaload, 1)) (kk : W p l e R s m args below meth c H locs cells slots Q (F0 m (pc + 1) ls (rv (ad 3) v :: rest))) : W p l e R s m args below meth c H locs cells slots Q (F0 m pc ls (.int (iI i) :: .ref (ad 12 j) :: rest)) := by
  subst hv
  exact wr_aald hexec hb hK hR hd rfl 6 rfl hi (by decide) (by show ro (ad 3) (sg 603 (i.toNat : Int)) = _; rw [Int.toNat_of_nonneg hi.1]) d kk
end CX
end
section
/-! contracts: of a method that writes nothing (Qp), of one that writes (Qm); their starts, ends and calls -/
def Kn : Addr → Prop := fun _ => False
def Qp (v : Value) : Array Value → State → Outcome → State → Prop := fun _ st o t => o = .returned (some v) ∧ t.heap = st.heap
def Qm (ov : Option Value) (P : Heap → Prop) (A : Nat → Prop) : Array Value → State → Outcome → State → Prop := fun _ st o t => o = .returned ov ∧ P t.heap ∧ va_F A st t
def Pc (D : va_G) (cy : Nat → ClassId) (H : Heap) (as : List Value) : Array Value → State → Prop := va_Pc as (fun U => U.heap = H ∧ KC D cy U)
theorem Pc_blind {D : va_G} {cy : Nat → ClassId} {H : Heap} {as : List Value} : FrameBlind (Pc D cy H as) := fun a U g mk h => ⟨h.1, h.2.1, va_K.moved (u := U) (U := U.calling g mk a) (Vm.Alike.refl U.vm) h.2.2⟩
abbrev rmF (f lo mc ms : Nat) : Room := { frames := f, cells := mc, slots := ms, locals := lo }
/-- what the tables say of a method: static ones, and those of an object -/
def MSt (y : MethodName) (bytes : ByteArray) (maxL : Nat) (ret : Option FieldType) (n : Nat) : Prop := Cond.code y bytes maxL ret ∈ wG ∧ Cond.static y ∈ wG ∧ Cond.initialized y.cls ∈ wG ∧ y.cls ≠ "java/lang/invoke/MethodHandle" ∧ y.cls ≠ "java/lang/invoke/VarHandle" ∧ (parseMethodDescriptor y.desc).map (fun d => d.parameters.length) = some n
def MVi (C : String) (y : MethodName) (bytes : ByteArray) (maxL : Nat) (ret : Option FieldType) (n : Nat) : Prop := Cond.code y bytes maxL ret ∈ wG ∧ Cond.instanceMethod y ∈ wG ∧ Cond.selects C y y ∈ wG ∧ Cond.initialized C ∈ wG ∧ y.cls = C ∧ y.cls ≠ "java/lang/invoke/MethodHandle" ∧ y.cls ≠ "java/lang/invoke/VarHandle" ∧ (parseMethodDescriptor y.desc).map (fun d => d.parameters.length) = some n
theorem gV0 {cd : Cond} {own C : String} {i : Nat} {y : MethodName} (h1 : Cond.methodLink own i y ∈ wG) (h2 : Cond.instanceMethod y ∈ wG) (h3 : Cond.selects C y y ∈ wG) (h4 : Cond.initialized C ∈ wG) (h5 : cd ∈ wG) : GoodIn wG (wsV own i C y (cd :: wG)) := by
  have h : ∀ w ∈ wG, w ∈ wG ∧ ((w.onTables && w.keeps) = true ∨ ∃ ty, w = .arrayClass ty) := fun w h => ⟨h, wG_good h⟩
  intro w hw
  unfold wsV at hw
  rcases List.mem_append.mp hw with hw | hw
  · simp only [List.mem_cons, List.not_mem_nil, or_false] at hw
    rcases hw with e | e | e | e <;> subst e
    · exact h _ h1
    · exact h _ h2
    · exact h _ h3
    · exact h _ h4
  · rcases List.mem_cons.mp hw with e | e
    · subst e; exact h _ h5
    · exact h _ e
theorem gS0 {cd : Cond} {own : String} {i : Nat} {y : MethodName} (h1 : Cond.methodLink own i y ∈ wG) (h2 : Cond.static y ∈ wG) (h4 : Cond.initialized y.cls ∈ wG) (h5 : cd ∈ wG) : GoodIn wG (va_wsS own i y (cd :: wG)) := by
  have h : ∀ w ∈ wG, w ∈ wG ∧ ((w.onTables && w.keeps) = true ∨ ∃ ty, w = .arrayClass ty) := fun w h => ⟨h, wG_good h⟩
  intro w hw
  unfold va_wsS at hw
  rcases List.mem_append.mp hw with hw | hw
  · simp only [List.mem_cons, List.not_mem_nil, or_false] at hw
    rcases hw with e | e | e <;> subst e
    · exact h _ h1
    · exact h _ h2
    · exact h _ h4
  · rcases List.mem_cons.mp hw with e | e
    · subst e; exact h _ h5
    · exact h _ e
/-- a contract's start: everything by names -/
theorem met_of {l : Launch} {D : va_G} {cy : Nat → ClassId} {y : MethodName} {cc : ByteArray} {maxL f lo mc ms : Nat} {ret : Option FieldType} {H : Heap} {as : List Value} {Qc : Array Value → State → Outcome → State → Prop} {free : Addr → Prop} {la : List (Nat × Value)} (hy : plainName y.cls = true) (hlen : (lg_sl as).length ≤ maxL) (hla : lv_args 0 as = la)
    (body : ∀ (p : Program) (e : Env) (R : Room) (s : State) (m : MethodId) (args : Array Value) (below : List Frame) (meth : Method) (c : Code) (ls : Array Slot), R = rmF f lo mc ms → p.tables.exec = Jvm.exec → c.code = cc → c.maxLocals = maxL → meth.sig.returnType = ret → meth.locks = false → (y.name = "<init>" → meth.name = "<init>") → s.vm.findClass y.cls = some m.cls → (∀ w ∈ wG, w.before args s = true) → s.heap = H → KC D cy s → lv_has ls maxL la →
      W p l e R s m args below meth c H [] 0 0 (MQ below Qc args s mc ms free) (F0 m 0 ls [])) :
    Met l y (Cond.code y cc maxL ret :: wG) (rmF f lo mc ms) (Pc D cy H as) Qc mc ms free := by
  refine Met.ofW (cc := cc) (maxL := maxL) (ret := ret) hy rfl ?_
  intro p e s m args below meth c s₁ B hml hv
  obtain ⟨rfl, hsH, hK⟩ := hv
  have hts := atoms_spec (ws := Cond.code y cc maxL ret :: wG) B.pre
  have hl := lv_entry as (n := maxL) hlen
  rw [lg_entry_eq]
  rw [hla] at hl
  rw [hsH]
  have hn : y.name = "<init>" → meth.name = "<init>" := fun h => (name_of_methodNamed B.named B.method).1.trans h
  exact body p e _ s m as.toArray below meth c _ rfl B.exec B.bytes hml B.returns B.notSynchronized hn (findClass_of_methodNamed B.named) (fun w hw => hts w (List.mem_cons_of_mem _ hw)) hsH hK hl
section EX
variable {p : Program} {l : Launch} {e : Env} {R : Room} {s : State} {m : MethodId} {args : Array Value} {below : List Frame} {meth : Method} {c : Code} {H H0 : Heap} {locs : List Loc} {cells slots mc ms : Nat} {Q : State → Prop}
variable {cc : ByteArray} {pc : Nat} {ls : Array Slot} {rest : List Value} {D : va_G} {cy : Nat → ClassId} {A : Nat → Prop}
/-- ends of a method that wrote nothing -/
theorem xe_i (hx : p.tables.exec = Jvm.exec) (hb : c.code = cc) (hr : meth.sig.returnType = some .int) (hlk : meth.locks = false) (hsH : s.heap = H) {a b : Int} (d : decode cc pc = .ok (.ireturn, 1)) (h : a = b) : W p l e R s m args below meth c H [] 0 0 (MQ below (Qp (.int (iI b))) args s 0 0 Kn) (F0 m pc ls [.int (iI a)]) := by
  subst h
  exact W.iret hx hb hr (fun t ht _ => ⟨rfl, by rw [ht, hsH]⟩) (fun q hq => by cases hq) d hlk
theorem xe_z (hx : p.tables.exec = Jvm.exec) (hb : c.code = cc) (hr : meth.sig.returnType = some .boolean) (hlk : meth.locks = false) (hsH : s.heap = H) {a b : Int} (d : decode cc pc = .ok (.ireturn, 1)) (hz : 0 ≤ a ∧ a ≤ 1) (h : a = b) : W p l e R s m args below meth c H [] 0 0 (MQ below (Qp (.int (iI b))) args s 0 0 Kn) (F0 m pc ls [.int (iI a)]) := by
  subst h
  exact W.zret hx hb hr (by rcases (show a = 0 ∨ a = 1 by omega) with z | z <;> subst z <;> rfl) (fun t ht _ => ⟨rfl, by rw [ht, hsH]⟩) (fun q hq => by cases hq) d hlk
theorem xe_zb (hx : p.tables.exec = Jvm.exec) (hb : c.code = cc) (hr : meth.sig.returnType = some .boolean) (hlk : meth.locks = false) (hsH : s.heap = H) {a : Int} {P : Prop} (d : decode cc pc = .ok (.ireturn, 1)) (h : (a = 1 ∧ P) ∨ (a = 0 ∧ ¬ P)) : W p l e R s m args below meth c H [] 0 0 (MQ below (Qp (.int (iI (bI P)))) args s 0 0 Kn) (F0 m pc ls [.int (iI a)]) := by
  rcases h with ⟨h, q⟩ | ⟨h, q⟩
  · exact xe_z hx hb hr hlk hsH d (by omega) (by rw [bI_t q]; exact h)
  · exact xe_z hx hb hr hlk hsH d (by omega) (by rw [bI_f q]; exact h)
theorem xe_bb (hx : p.tables.exec = Jvm.exec) (hb : c.code = cc) (hr : meth.sig.returnType = some .boolean) (hlk : meth.locks = false) (hsH : s.heap = H) {P0 P : Prop} (d : decode cc pc = .ok (.ireturn, 1)) (h : P0 ↔ P) : W p l e R s m args below meth c H [] 0 0 (MQ below (Qp (.int (iI (bI P)))) args s 0 0 Kn) (F0 m pc ls [.int (iI (bI P0))]) :=
  xe_zb hx hb hr hlk hsH d (by rcases bI_cases P0 with ⟨q, z⟩ | ⟨q, z⟩; exact Or.inl ⟨z, h.mp q⟩; exact Or.inr ⟨z, fun w => q (h.mpr w)⟩)
theorem xe_l (hx : p.tables.exec = Jvm.exec) (hb : c.code = cc) (hr : meth.sig.returnType = some .long) (hlk : meth.locks = false) (hsH : s.heap = H) {a b : Int} (d : decode cc pc = .ok (.lreturn, 1)) (h : a = b) : W p l e R s m args below meth c H [] 0 0 (MQ below (Qp (.long (lI b))) args s 0 0 Kn) (F0 m pc ls [.long (lI a)]) := by
  subst h
  exact W.lret hx hb hr (fun t ht _ => ⟨rfl, by rw [ht, hsH]⟩) (fun q hq => by cases hq) d hlk
theorem xe_a (hx : p.tables.exec = Jvm.exec) (hb : c.code = cc) {rt : String} (hr : meth.sig.returnType = some (.object rt)) (hlk : meth.locks = false) (hsH : s.heap = H) {f : Int → Nat} {v : Int} {x : Value} (d : decode cc pc = .ok (.areturn, 1)) (h : x = rv f v) : W p l e R s m args below meth c H [] 0 0 (MQ below (Qp (rv f v)) args s 0 0 Kn) (F0 m pc ls [x]) := by
  subst h
  exact W.aret hx hb hr (Or.inl ⟨_, rfl⟩) (rv_ret f v) (fun t ht _ => ⟨rfl, by rw [ht, hsH]⟩) (fun q hq => by cases hq) d hlk
/-- ends of a method that wrote -/
theorem xm_i (hx : p.tables.exec = Jvm.exec) (hb : c.code = cc) (hr : meth.sig.returnType = some .int) (hlk : meth.locks = false) {P : Heap → Prop} {a b : Int} (hS : va_S A s.heap H locs) (d : decode cc pc = .ok (.ireturn, 1)) (h : a = b) (hP : P H) : W p l e R s m args below meth c H locs cells slots (MQ below (Qm (some (.int (iI b))) P A) args s cells slots A) (F0 m pc ls [.int (iI a)]) := by
  subst h
  exact W.iret hx hb hr (fun t ht _ => ⟨rfl, by rw [ht]; exact hP, hS.F ht⟩) hS.2.2 d hlk
theorem xm_zb (hx : p.tables.exec = Jvm.exec) (hb : c.code = cc) (hr : meth.sig.returnType = some .boolean) (hlk : meth.locks = false) {P : Heap → Prop} {a : Int} {B : Prop} (hS : va_S A s.heap H locs) (d : decode cc pc = .ok (.ireturn, 1)) (h : (a = 1 ∧ B) ∨ (a = 0 ∧ ¬ B)) (hP : P H) : W p l e R s m args below meth c H locs cells slots (MQ below (Qm (some (.int (iI (bI B)))) P A) args s cells slots A) (F0 m pc ls [.int (iI a)]) := by
  have e1 : a = bI B := by
    rcases h with ⟨h, q⟩ | ⟨h, q⟩
    · rw [bI_t q]; exact h
    · rw [bI_f q]; exact h
  have hz := bI_in B
  rw [e1]
  exact W.zret hx hb hr (by rcases (show bI B = 0 ∨ bI B = 1 by omega) with z | z <;> rw [z] <;> rfl) (fun t ht _ => ⟨rfl, by rw [ht]; exact hP, hS.F ht⟩) hS.2.2 d hlk
theorem xm_l (hx : p.tables.exec = Jvm.exec) (hb : c.code = cc) (hr : meth.sig.returnType = some .long) (hlk : meth.locks = false) {P : Heap → Prop} {a b : Int} (hS : va_S A s.heap H locs) (d : decode cc pc = .ok (.lreturn, 1)) (h : a = b) (hP : P H) : W p l e R s m args below meth c H locs cells slots (MQ below (Qm (some (.long (lI b))) P A) args s cells slots A) (F0 m pc ls [.long (lI a)]) := by
  subst h
  exact W.lret hx hb hr (fun t ht _ => ⟨rfl, by rw [ht]; exact hP, hS.F ht⟩) hS.2.2 d hlk
theorem xm_v (hx : p.tables.exec = Jvm.exec) (hb : c.code = cc) (hr : meth.sig.returnType = none) (hlk : meth.locks = false) {P : Heap → Prop} (hS : va_S A s.heap H locs) (d : decode cc pc = .ok (.return_, 1)) (hP : P H) : W p l e R s m args below meth c H locs cells slots (MQ below (Qm none P A) args s cells slots A) (F0 m pc ls []) :=
  W.vret hx hb hr (fun t ht _ => ⟨rfl, by rw [ht]; exact hP, hS.F ht⟩) hS.2.2 d hlk
/-- calls of methods that write nothing: the heap is as it was -/
theorem xk_p {g : JFrame} {v : Value} {a : Array Value} (hr : va_Run p l e R s m args below meth c H locs cells slots 0 0 g rest (Qp v a) Kn) (kk : W p l e R s m args below meth c H locs cells slots Q { g with pc := g.pc + 3, stack := v :: rest }) : W p l e R s m args below meth c H locs cells slots Q g := by
  intro T hT X
  obtain ⟨v', st₀, t, T', L, h0, X', hL, e1, e2, ⟨hv, hh⟩, stp⟩ := hr T hT X
  have hL0 : L = [] := by
    cases L with
    | nil => rfl
    | cons q L => exact (hL q List.mem_cons_self).elim
  subst hL0
  rw [List.append_nil] at X'
  have hv' : v' = some v := Outcome.returned.inj hv
  subst hv'
  obtain ⟨t2, a1, b1⟩ := kk T' (by rw [e1, hh, h0]) X'
  exact ⟨t2, stp t2 a1, b1⟩
theorem xk_m {g : JFrame} {ov : Option Value} {P : Heap → Prop} {a : Array Value} (hr : va_Run p l e R s m args below meth c H locs cells slots mc ms g rest (Qm ov P A a) A) (hS : va_S A H0 H locs) (kk : ∀ (H1 : Heap) (locs1 : List Loc), P H1 → va_S A H0 H1 locs1 → H.size ≤ H1.size → (∀ q : Nat, q < H.size → ¬ A q → H1[q]? = H[q]?) → W p l e R s m args below meth c H1 locs1 (cells + mc) (slots + ms) Q { g with pc := g.pc + 3, stack := ov.toList ++ rest }) : W p l e R s m args below meth c H locs cells slots Q g := by
  intro T hT X
  obtain ⟨v', st₀, t, T', L, h0, X', hL, e1, e2, ⟨hv, hp, hz, hk⟩, stp⟩ := hr T hT X
  have hv' : v' = ov := Outcome.returned.inj hv
  subst hv'
  rw [h0, ← e1] at hz hk
  rw [← e1] at hp
  obtain ⟨t2, a1, b1⟩ := kk T'.heap (locs ++ L) hp ⟨Nat.le_trans hS.1 hz, fun q h1 h2 => by rw [hk q (Nat.lt_of_lt_of_le h1 hS.1) h2]; exact hS.2.1 q h1 h2, fun q hq => by
      rcases List.mem_append.mp hq with h | h
      · exact hS.2.2 q h
      · exact hL q h⟩ hz hk T' rfl X'
  exact ⟨t2, stp t2 a1, b1⟩
variable {own C : String} {index n maxL nL f lo : Nat} {y : MethodName} {bytes : ByteArray} {ret : Option FieldType} {Qc : Array Value → State → Outcome → State → Prop} {free : Addr → Prop}
theorem xr_S {As : List Value} {g : JFrame} (hx : p.tables.exec = Jvm.exec) (hb : c.code = cc) (hml : c.maxLocals = nL) (hown : s.vm.findClass own = some m.cls) (hts : ∀ w ∈ wG, w.before args s = true) (hK : KC D cy s) (hM : Met l y (Cond.code y bytes maxL ret :: wG) (rmF f lo mc ms) (Pc D cy H As) Qc mc ms free) (hm : MSt y bytes maxL ret n) (hk : Cond.methodLink own index y ∈ wG) (hR : f + 1 ≤ R.frames ∧ 8 + (maxL + 11) + lo ≤ R.locals) (hf : cells + mc ≤ R.cells ∧ slots + ms ≤ R.slots) (hn : As.length = n) (hg : g.method = m) (hz : g.locals.size = nL) (hs : g.stack = As.reverse ++ rest) (hW : 2 * g.monitorRoom + (rest.map fun v => v.category).sum ≤ 8) (d : decode cc g.pc = .ok (.invokestatic index, 3)) :
    va_Run p l e R s m args below meth c H locs cells slots mc ms g rest (Qc As.toArray) free := by
  obtain ⟨h5, h2, h4, h6, h7, h8⟩ := hm
  exact va_runS ⟨hx, hb, hml, hown, hts⟩ hM (va_cwS n hts (gS0 hk h2 h4 h5) rfl rfl rfl ⟨h6, h7, h8⟩ hR) ⟨Pc_blind, fun U hU hW => ⟨rfl, hU, va_K.moved hW.alike hK⟩⟩ hg hn hz hs hW d hf
theorem xr_V {As : List Value} {b : Addr} {g : JFrame} (hx : p.tables.exec = Jvm.exec) (hb : c.code = cc) (hml : c.maxLocals = nL) (hown : s.vm.findClass own = some m.cls) (hts : ∀ w ∈ wG, w.before args s = true) (hK : KC D cy s) (hM : Met l y (Cond.code y bytes maxL ret :: wG) (rmF f lo mc ms) (Pc D cy H (.ref b :: As)) Qc mc ms free) (hm : MVi C y bytes maxL ret n) (hk : Cond.methodLink own index y ∈ wG) (hrc : ∃ cellB : Cell, H[b]? = some cellB ∧ cellB.vm.isStatics = false ∧ s.vm.findClass C = some cellB.cls) (hR : f + 1 ≤ R.frames ∧ 8 + (maxL + 11) + lo ≤ R.locals) (hf : cells + mc ≤ R.cells ∧ slots + ms ≤ R.slots) (hn : As.length = n) (hg : g.method = m) (hz : g.locals.size = nL) (hs : g.stack = As.reverse ++ .ref b :: rest) (hW : 2 * g.monitorRoom + (rest.map fun v => v.category).sum ≤ 8) (d : decode cc g.pc = .ok (.invokevirtual index, 3)) :
    va_Run p l e R s m args below meth c H locs cells slots mc ms g rest (Qc (Value.ref b :: As).toArray) free := by
  obtain ⟨h5, h2, h3, h4, hC, h6, h7, h8⟩ := hm
  exact va_runV ⟨hx, hb, hml, hown, hts⟩ hM (cwV n hts (gV0 hk h2 h3 h4 h5) rfl rfl rfl ⟨hC, h6, h7, h8⟩ hR) ⟨Pc_blind, hrc, fun U hU hW => ⟨rfl, hU, va_K.moved hW.alike hK⟩⟩ hg hn hz hs hW d hf
theorem xr_I {As : List Value} {b : Addr} {g : JFrame} (hx : p.tables.exec = Jvm.exec) (hb : c.code = cc) (hml : c.maxLocals = nL) (hown : s.vm.findClass own = some m.cls) (hts : ∀ w ∈ wG, w.before args s = true) (hK : KC D cy s) (hM : Met l y (Cond.code y bytes maxL none :: wG) (rmF f lo mc ms) (Pc D cy H (.ref b :: As)) Qc mc ms free) (hcd : Cond.code y bytes maxL none ∈ wG) (hin : Cond.instanceMethod y ∈ wG) (hini : Cond.initialized y.cls ∈ wG) (hy1 : y.name = "<init>") (hd : y.cls ≠ "java/lang/invoke/MethodHandle" ∧ y.cls ≠ "java/lang/invoke/VarHandle" ∧ (parseMethodDescriptor y.desc).map (fun d => d.parameters.length) = some n) (hk : Cond.methodLink own index y ∈ wG) (hR : f + 1 ≤ R.frames ∧ 8 + (maxL + 11) + lo ≤ R.locals) (hf : cells + mc ≤ R.cells ∧ slots + ms ≤ R.slots) (hn : As.length = n) (hg : g.method = m) (hz : g.locals.size = nL) (hs : g.stack = As.reverse ++ .ref b :: rest) (hW : 2 * g.monitorRoom + (rest.map fun v => v.category).sum ≤ 8) (d : decode cc g.pc = .ok (.invokespecial index, 3)) :
    va_Run p l e R s m args below meth c H locs cells slots mc ms g rest (Qc (Value.ref b :: As).toArray) free := by
  have hG : GoodIn wG (Cond.code y bytes maxL none :: wG) := fun w hw => by
    rcases List.mem_cons.mp hw with z | z
    · subst z; exact ⟨hcd, wG_good hcd⟩
    · exact ⟨z, wG_good z⟩
  exact va_runI ⟨hx, hb, hml, hown, hts⟩ hM (cwI n hts hG rfl rfl rfl (hts _ hini) (hts _ hk) (hts _ hin) hy1 hd hR) ⟨Pc_blind, fun U hU hW => ⟨rfl, hU, va_K.moved hW.alike hK⟩⟩ hg hn hz hs hW d hf
/-- the receiver, out of a world -/
theorem wr_recv {dm : Nat → Int → Prop} {ad : Nat → Int → Nat} {cell : Nat → Int → va_E} {k : Nat} {j : Int} (hK : KC D cy s) (hR : wR D vwCl A dm ad cell H) (hd : dm k j) {ci : Nat} {fs : List Value} (he : cell k j = .inr (ci, fs)) {q : vw_C} (hc : vwCl[ci]? = some q) : ∃ cellB : Cell, H[ad k j]? = some cellB ∧ cellB.vm.isStatics = false ∧ s.vm.findClass q.1 = some cellB.cls := by
  obtain ⟨ws, q0, hP, hD, h0, -⟩ := wr_use hR hd
  rw [he] at h0
  exact va_recv hK hP hc h0
end EX
end
