-- ===== PART A: goes FIRST, ahead of the names: the tables' words, and 'selects' of the private methods out of them =====
/-- a private method of a class that the tables say can be made, by its rows of tables_1 -/
def lw_okq (q : MethodName × Nat) : Prop := (q.1.cls ≠ "java/lang/invoke/MethodHandle" ∧ q.1.cls ≠ "java/lang/invoke/VarHandle") ∧ Cond.instantiable q.1.cls q.2 ∈ tables_1 ∧ Cond.privateMethod q.1 ∈ tables_1 ∧ Cond.instanceMethod q.1 ∈ tables_1
theorem lw_p0 : lw_okq (⟨"java/util/ArrayList", "add", "(Ljava/lang/Object;[Ljava/lang/Object;I)V"⟩, 3) := ⟨⟨by decide +kernel, by decide +kernel⟩, List.mem_of_getElem? (i := 36) (by decide +kernel), List.mem_of_getElem? (i := 248) (by decide +kernel), List.mem_of_getElem? (i := 249) (by decide +kernel)⟩
theorem lw_p1 : lw_okq (⟨"java/util/ArrayList", "grow", "()[Ljava/lang/Object;"⟩, 3) := ⟨⟨by decide +kernel, by decide +kernel⟩, List.mem_of_getElem? (i := 36) (by decide +kernel), List.mem_of_getElem? (i := 252) (by decide +kernel), List.mem_of_getElem? (i := 253) (by decide +kernel)⟩
theorem lw_p2 : lw_okq (⟨"java/util/ArrayList", "grow", "(I)[Ljava/lang/Object;"⟩, 3) := ⟨⟨by decide +kernel, by decide +kernel⟩, List.mem_of_getElem? (i := 36) (by decide +kernel), List.mem_of_getElem? (i := 256) (by decide +kernel), List.mem_of_getElem? (i := 257) (by decide +kernel)⟩
theorem lw_p3 : lw_okq (⟨"RainCover", "isGauge", "(I)Z"⟩, 20) := ⟨⟨by decide +kernel, by decide +kernel⟩, List.mem_of_getElem? (i := 28) (by decide +kernel), List.mem_of_getElem? (i := 309) (by decide +kernel), List.mem_of_getElem? (i := 310) (by decide +kernel)⟩
theorem lw_p4 : lw_okq (⟨"RainCover", "isGaugeWeek", "(III)Z"⟩, 20) := ⟨⟨by decide +kernel, by decide +kernel⟩, List.mem_of_getElem? (i := 28) (by decide +kernel), List.mem_of_getElem? (i := 337) (by decide +kernel), List.mem_of_getElem? (i := 338) (by decide +kernel)⟩
theorem lw_p5 : lw_okq (⟨"RainCover", "isSheet", "(I)Z"⟩, 20) := ⟨⟨by decide +kernel, by decide +kernel⟩, List.mem_of_getElem? (i := 28) (by decide +kernel), List.mem_of_getElem? (i := 368) (by decide +kernel), List.mem_of_getElem? (i := 369) (by decide +kernel)⟩
theorem lw_p6 : lw_okq (⟨"RainCover", "fill", "(IIII)I"⟩, 20) := ⟨⟨by decide +kernel, by decide +kernel⟩, List.mem_of_getElem? (i := 28) (by decide +kernel), List.mem_of_getElem? (i := 392) (by decide +kernel), List.mem_of_getElem? (i := 393) (by decide +kernel)⟩
theorem lw_p7 : lw_okq (⟨"RainCover", "nearestTold", "(IIII)I"⟩, 20) := ⟨⟨by decide +kernel, by decide +kernel⟩, List.mem_of_getElem? (i := 28) (by decide +kernel), List.mem_of_getElem? (i := 396) (by decide +kernel), List.mem_of_getElem? (i := 397) (by decide +kernel)⟩
theorem lw_p8 : lw_okq (⟨"RainCover", "usualRain", "(III)I"⟩, 20) := ⟨⟨by decide +kernel, by decide +kernel⟩, List.mem_of_getElem? (i := 28) (by decide +kernel), List.mem_of_getElem? (i := 403) (by decide +kernel), List.mem_of_getElem? (i := 404) (by decide +kernel)⟩
theorem lw_p9 : lw_okq (⟨"RainCover", "extreme", "(IIIZ)I"⟩, 20) := ⟨⟨by decide +kernel, by decide +kernel⟩, List.mem_of_getElem? (i := 28) (by decide +kernel), List.mem_of_getElem? (i := 411) (by decide +kernel), List.mem_of_getElem? (i := 412) (by decide +kernel)⟩
theorem lw_p10 : lw_okq (⟨"RainCover", "now", "()I"⟩, 20) := ⟨⟨by decide +kernel, by decide +kernel⟩, List.mem_of_getElem? (i := 28) (by decide +kernel), List.mem_of_getElem? (i := 415) (by decide +kernel), List.mem_of_getElem? (i := 416) (by decide +kernel)⟩
theorem lw_p11 : lw_okq (⟨"RainCover", "isOddWeek", "(III)Z"⟩, 20) := ⟨⟨by decide +kernel, by decide +kernel⟩, List.mem_of_getElem? (i := 28) (by decide +kernel), List.mem_of_getElem? (i := 423) (by decide +kernel), List.mem_of_getElem? (i := 424) (by decide +kernel)⟩
theorem lw_p12 : lw_okq (⟨"RainCover$Tape", "next", "()I"⟩, 4) := ⟨⟨by decide +kernel, by decide +kernel⟩, List.mem_of_getElem? (i := 83) (by decide +kernel), List.mem_of_getElem? (i := 499) (by decide +kernel), List.mem_of_getElem? (i := 500) (by decide +kernel)⟩
theorem lw_p13 : lw_okq (⟨"RainCover$Tape", "readRate", "(LRainCover$Term;)V"⟩, 4) := ⟨⟨by decide +kernel, by decide +kernel⟩, List.mem_of_getElem? (i := 83) (by decide +kernel), List.mem_of_getElem? (i := 503) (by decide +kernel), List.mem_of_getElem? (i := 504) (by decide +kernel)⟩
theorem lw_p14 : lw_okq (⟨"RainCover$Tape", "word", "(Ljava/lang/String;)V"⟩, 4) := ⟨⟨by decide +kernel, by decide +kernel⟩, List.mem_of_getElem? (i := 83) (by decide +kernel), List.mem_of_getElem? (i := 508) (by decide +kernel), List.mem_of_getElem? (i := 509) (by decide +kernel)⟩
theorem lw_p15 : lw_okq (⟨"RainCover$Tape", "number", "(I)I"⟩, 4) := ⟨⟨by decide +kernel, by decide +kernel⟩, List.mem_of_getElem? (i := 83) (by decide +kernel), List.mem_of_getElem? (i := 558) (by decide +kernel), List.mem_of_getElem? (i := 559) (by decide +kernel)⟩
def lw_privs_1 : List (MethodName × Nat) := [(⟨"java/util/ArrayList", "add", "(Ljava/lang/Object;[Ljava/lang/Object;I)V"⟩, 3), (⟨"java/util/ArrayList", "grow", "()[Ljava/lang/Object;"⟩, 3), (⟨"java/util/ArrayList", "grow", "(I)[Ljava/lang/Object;"⟩, 3), (⟨"RainCover", "isGauge", "(I)Z"⟩, 20), (⟨"RainCover", "isGaugeWeek", "(III)Z"⟩, 20), (⟨"RainCover", "isSheet", "(I)Z"⟩, 20), (⟨"RainCover", "fill", "(IIII)I"⟩, 20), (⟨"RainCover", "nearestTold", "(IIII)I"⟩, 20), (⟨"RainCover", "usualRain", "(III)I"⟩, 20), (⟨"RainCover", "extreme", "(IIIZ)I"⟩, 20), (⟨"RainCover", "now", "()I"⟩, 20), (⟨"RainCover", "isOddWeek", "(III)Z"⟩, 20), (⟨"RainCover$Tape", "next", "()I"⟩, 4), (⟨"RainCover$Tape", "readRate", "(LRainCover$Term;)V"⟩, 4), (⟨"RainCover$Tape", "word", "(Ljava/lang/String;)V"⟩, 4), (⟨"RainCover$Tape", "number", "(I)I"⟩, 4)]
theorem lw_r1 : ∀ q ∈ lw_privs_1, lw_okq q := List.forall_mem_cons.mpr ⟨lw_p0, List.forall_mem_cons.mpr ⟨lw_p1, List.forall_mem_cons.mpr ⟨lw_p2, List.forall_mem_cons.mpr ⟨lw_p3, List.forall_mem_cons.mpr ⟨lw_p4, List.forall_mem_cons.mpr ⟨lw_p5, List.forall_mem_cons.mpr ⟨lw_p6, List.forall_mem_cons.mpr ⟨lw_p7, List.forall_mem_cons.mpr ⟨lw_p8, List.forall_mem_cons.mpr ⟨lw_p9, List.forall_mem_cons.mpr ⟨lw_p10, List.forall_mem_cons.mpr ⟨lw_p11, List.forall_mem_cons.mpr ⟨lw_p12, List.forall_mem_cons.mpr ⟨lw_p13, List.forall_mem_cons.mpr ⟨lw_p14, List.forall_mem_cons.mpr ⟨lw_p15, fun _ h => absurd h List.not_mem_nil⟩⟩⟩⟩⟩⟩⟩⟩⟩⟩⟩⟩⟩⟩⟩⟩
theorem lw_p16 : lw_okq (⟨"RainCover$Tape", "readSpan", "(LRainCover$Term;I)V"⟩, 4) := ⟨⟨by decide +kernel, by decide +kernel⟩, List.mem_of_getElem? (i := 83) (by decide +kernel), List.mem_of_getElem? (i := 565) (by decide +kernel), List.mem_of_getElem? (i := 566) (by decide +kernel)⟩
theorem lw_p17 : lw_okq (⟨"RainCover$Tape", "readPay", "(LRainCover$Term;)V"⟩, 4) := ⟨⟨by decide +kernel, by decide +kernel⟩, List.mem_of_getElem? (i := 83) (by decide +kernel), List.mem_of_getElem? (i := 571) (by decide +kernel), List.mem_of_getElem? (i := 572) (by decide +kernel)⟩
theorem lw_p18 : lw_okq (⟨"RainCover$Tape", "readCase", "(LRainCover$Term;I)V"⟩, 4) := ⟨⟨by decide +kernel, by decide +kernel⟩, List.mem_of_getElem? (i := 83) (by decide +kernel), List.mem_of_getElem? (i := 577) (by decide +kernel), List.mem_of_getElem? (i := 578) (by decide +kernel)⟩
theorem lw_p19 : lw_okq (⟨"RainCover", "isTerm", "(I)Z"⟩, 20) := ⟨⟨by decide +kernel, by decide +kernel⟩, List.mem_of_getElem? (i := 28) (by decide +kernel), List.mem_of_getElem? (i := 597) (by decide +kernel), List.mem_of_getElem? (i := 598) (by decide +kernel)⟩
theorem lw_p20 : lw_okq (⟨"RainCover", "payOn", "(IIIIII)I"⟩, 20) := ⟨⟨by decide +kernel, by decide +kernel⟩, List.mem_of_getElem? (i := 28) (by decide +kernel), List.mem_of_getElem? (i := 601) (by decide +kernel), List.mem_of_getElem? (i := 602) (by decide +kernel)⟩
theorem lw_p21 : lw_okq (⟨"RainCover$Term", "measure", "(I[I[III)I"⟩, 11) := ⟨⟨by decide +kernel, by decide +kernel⟩, List.mem_of_getElem? (i := 447) (by decide +kernel), List.mem_of_getElem? (i := 612) (by decide +kernel), List.mem_of_getElem? (i := 613) (by decide +kernel)⟩
theorem lw_p22 : lw_okq (⟨"RainCover$Term", "rateFor", "(I)I"⟩, 11) := ⟨⟨by decide +kernel, by decide +kernel⟩, List.mem_of_getElem? (i := 447) (by decide +kernel), List.mem_of_getElem? (i := 626) (by decide +kernel), List.mem_of_getElem? (i := 627) (by decide +kernel)⟩
theorem lw_p23 : lw_okq (⟨"RainCover", "isFarm", "(I)Z"⟩, 20) := ⟨⟨by decide +kernel, by decide +kernel⟩, List.mem_of_getElem? (i := 28) (by decide +kernel), List.mem_of_getElem? (i := 744) (by decide +kernel), List.mem_of_getElem? (i := 745) (by decide +kernel)⟩
theorem lw_p24 : lw_okq (⟨"RainCover", "coverOf", "(II)I"⟩, 20) := ⟨⟨by decide +kernel, by decide +kernel⟩, List.mem_of_getElem? (i := 28) (by decide +kernel), List.mem_of_getElem? (i := 748) (by decide +kernel), List.mem_of_getElem? (i := 749) (by decide +kernel)⟩
theorem lw_p25 : lw_okq (⟨"RainCover", "gaugeOf", "(LRainCover$Farm;I)I"⟩, 20) := ⟨⟨by decide +kernel, by decide +kernel⟩, List.mem_of_getElem? (i := 28) (by decide +kernel), List.mem_of_getElem? (i := 776) (by decide +kernel), List.mem_of_getElem? (i := 777) (by decide +kernel)⟩
theorem lw_p26 : lw_okq (⟨"RainCover", "termOf", "(II)I"⟩, 20) := ⟨⟨by decide +kernel, by decide +kernel⟩, List.mem_of_getElem? (i := 28) (by decide +kernel), List.mem_of_getElem? (i := 784) (by decide +kernel), List.mem_of_getElem? (i := 785) (by decide +kernel)⟩
theorem lw_p27 : lw_okq (⟨"RainCover", "distanceToGauge", "(LRainCover$Farm;I)I"⟩, 20) := ⟨⟨by decide +kernel, by decide +kernel⟩, List.mem_of_getElem? (i := 28) (by decide +kernel), List.mem_of_getElem? (i := 788) (by decide +kernel), List.mem_of_getElem? (i := 789) (by decide +kernel)⟩
theorem lw_p28 : lw_okq (⟨"RainCover", "payOf", "(LRainCover$Farm;III)I"⟩, 20) := ⟨⟨by decide +kernel, by decide +kernel⟩, List.mem_of_getElem? (i := 28) (by decide +kernel), List.mem_of_getElem? (i := 792) (by decide +kernel), List.mem_of_getElem? (i := 793) (by decide +kernel)⟩
theorem lw_p29 : lw_okq (⟨"RainCover", "dueOf", "(LRainCover$Farm;II)I"⟩, 20) := ⟨⟨by decide +kernel, by decide +kernel⟩, List.mem_of_getElem? (i := 28) (by decide +kernel), List.mem_of_getElem? (i := 818) (by decide +kernel), List.mem_of_getElem? (i := 819) (by decide +kernel)⟩
theorem lw_p30 : lw_okq (⟨"RainCover", "gatherCoveredPays", "(I)V"⟩, 20) := ⟨⟨by decide +kernel, by decide +kernel⟩, List.mem_of_getElem? (i := 28) (by decide +kernel), List.mem_of_getElem? (i := 826) (by decide +kernel), List.mem_of_getElem? (i := 827) (by decide +kernel)⟩
theorem lw_p31 : lw_okq (⟨"RainCover", "isOverLine", "(IIII)Z"⟩, 20) := ⟨⟨by decide +kernel, by decide +kernel⟩, List.mem_of_getElem? (i := 28) (by decide +kernel), List.mem_of_getElem? (i := 830) (by decide +kernel), List.mem_of_getElem? (i := 831) (by decide +kernel)⟩
def lw_privs_2 : List (MethodName × Nat) := [(⟨"RainCover$Tape", "readSpan", "(LRainCover$Term;I)V"⟩, 4), (⟨"RainCover$Tape", "readPay", "(LRainCover$Term;)V"⟩, 4), (⟨"RainCover$Tape", "readCase", "(LRainCover$Term;I)V"⟩, 4), (⟨"RainCover", "isTerm", "(I)Z"⟩, 20), (⟨"RainCover", "payOn", "(IIIIII)I"⟩, 20), (⟨"RainCover$Term", "measure", "(I[I[III)I"⟩, 11), (⟨"RainCover$Term", "rateFor", "(I)I"⟩, 11), (⟨"RainCover", "isFarm", "(I)Z"⟩, 20), (⟨"RainCover", "coverOf", "(II)I"⟩, 20), (⟨"RainCover", "gaugeOf", "(LRainCover$Farm;I)I"⟩, 20), (⟨"RainCover", "termOf", "(II)I"⟩, 20), (⟨"RainCover", "distanceToGauge", "(LRainCover$Farm;I)I"⟩, 20), (⟨"RainCover", "payOf", "(LRainCover$Farm;III)I"⟩, 20), (⟨"RainCover", "dueOf", "(LRainCover$Farm;II)I"⟩, 20), (⟨"RainCover", "gatherCoveredPays", "(I)V"⟩, 20), (⟨"RainCover", "isOverLine", "(IIII)Z"⟩, 20)]
theorem lw_r2 : ∀ q ∈ lw_privs_2, lw_okq q := List.forall_mem_cons.mpr ⟨lw_p16, List.forall_mem_cons.mpr ⟨lw_p17, List.forall_mem_cons.mpr ⟨lw_p18, List.forall_mem_cons.mpr ⟨lw_p19, List.forall_mem_cons.mpr ⟨lw_p20, List.forall_mem_cons.mpr ⟨lw_p21, List.forall_mem_cons.mpr ⟨lw_p22, List.forall_mem_cons.mpr ⟨lw_p23, List.forall_mem_cons.mpr ⟨lw_p24, List.forall_mem_cons.mpr ⟨lw_p25, List.forall_mem_cons.mpr ⟨lw_p26, List.forall_mem_cons.mpr ⟨lw_p27, List.forall_mem_cons.mpr ⟨lw_p28, List.forall_mem_cons.mpr ⟨lw_p29, List.forall_mem_cons.mpr ⟨lw_p30, List.forall_mem_cons.mpr ⟨lw_p31, fun _ h => absurd h List.not_mem_nil⟩⟩⟩⟩⟩⟩⟩⟩⟩⟩⟩⟩⟩⟩⟩⟩
theorem lw_p32 : lw_okq (⟨"RainCover", "bandOf", "(I)I"⟩, 20) := ⟨⟨by decide +kernel, by decide +kernel⟩, List.mem_of_getElem? (i := 28) (by decide +kernel), List.mem_of_getElem? (i := 848) (by decide +kernel), List.mem_of_getElem? (i := 849) (by decide +kernel)⟩
theorem lw_p33 : lw_okq (⟨"RainCover", "missOf", "(II)I"⟩, 20) := ⟨⟨by decide +kernel, by decide +kernel⟩, List.mem_of_getElem? (i := 28) (by decide +kernel), List.mem_of_getElem? (i := 853) (by decide +kernel), List.mem_of_getElem? (i := 854) (by decide +kernel)⟩
theorem lw_p34 : lw_okq (⟨"RainCover", "gatherGaugeDistances", "()V"⟩, 20) := ⟨⟨by decide +kernel, by decide +kernel⟩, List.mem_of_getElem? (i := 28) (by decide +kernel), List.mem_of_getElem? (i := 878) (by decide +kernel), List.mem_of_getElem? (i := 879) (by decide +kernel)⟩
theorem lw_p35 : lw_okq (⟨"RainCover", "farFor", "(I)I"⟩, 20) := ⟨⟨by decide +kernel, by decide +kernel⟩, List.mem_of_getElem? (i := 28) (by decide +kernel), List.mem_of_getElem? (i := 888) (by decide +kernel), List.mem_of_getElem? (i := 889) (by decide +kernel)⟩
theorem lw_p36 : lw_okq (⟨"RainCover", "isOffer", "(IIII)Z"⟩, 20) := ⟨⟨by decide +kernel, by decide +kernel⟩, List.mem_of_getElem? (i := 28) (by decide +kernel), List.mem_of_getElem? (i := 902) (by decide +kernel), List.mem_of_getElem? (i := 903) (by decide +kernel)⟩
theorem lw_p37 : lw_okq (⟨"RainCover", "gatherPays", "(IIII)I"⟩, 20) := ⟨⟨by decide +kernel, by decide +kernel⟩, List.mem_of_getElem? (i := 28) (by decide +kernel), List.mem_of_getElem? (i := 906) (by decide +kernel), List.mem_of_getElem? (i := 907) (by decide +kernel)⟩
theorem lw_p38 : lw_okq (⟨"RainCover", "isKnown", "(II)Z"⟩, 20) := ⟨⟨by decide +kernel, by decide +kernel⟩, List.mem_of_getElem? (i := 28) (by decide +kernel), List.mem_of_getElem? (i := 910) (by decide +kernel), List.mem_of_getElem? (i := 911) (by decide +kernel)⟩
theorem lw_p39 : lw_okq (⟨"RainCover", "sumOfPays", "()J"⟩, 20) := ⟨⟨by decide +kernel, by decide +kernel⟩, List.mem_of_getElem? (i := 28) (by decide +kernel), List.mem_of_getElem? (i := 914) (by decide +kernel), List.mem_of_getElem? (i := 915) (by decide +kernel)⟩
theorem lw_p40 : lw_okq (⟨"RainCover", "priceOf", "(IIII)I"⟩, 20) := ⟨⟨by decide +kernel, by decide +kernel⟩, List.mem_of_getElem? (i := 28) (by decide +kernel), List.mem_of_getElem? (i := 922) (by decide +kernel), List.mem_of_getElem? (i := 923) (by decide +kernel)⟩
theorem lw_p41 : lw_okq (⟨"RainCover", "gatherSpliced", "(IIII)V"⟩, 20) := ⟨⟨by decide +kernel, by decide +kernel⟩, List.mem_of_getElem? (i := 28) (by decide +kernel), List.mem_of_getElem? (i := 942) (by decide +kernel), List.mem_of_getElem? (i := 943) (by decide +kernel)⟩
theorem lw_p42 : lw_okq (⟨"RainCover", "incomeIn", "(I)I"⟩, 20) := ⟨⟨by decide +kernel, by decide +kernel⟩, List.mem_of_getElem? (i := 28) (by decide +kernel), List.mem_of_getElem? (i := 950) (by decide +kernel), List.mem_of_getElem? (i := 951) (by decide +kernel)⟩
theorem lw_p43 : lw_okq (⟨"RainCover", "totalOf", "(II)I"⟩, 20) := ⟨⟨by decide +kernel, by decide +kernel⟩, List.mem_of_getElem? (i := 28) (by decide +kernel), List.mem_of_getElem? (i := 958) (by decide +kernel), List.mem_of_getElem? (i := 959) (by decide +kernel)⟩
theorem lw_p44 : lw_okq (⟨"RainCover", "gatherTotals", "(I)I"⟩, 20) := ⟨⟨by decide +kernel, by decide +kernel⟩, List.mem_of_getElem? (i := 28) (by decide +kernel), List.mem_of_getElem? (i := 975) (by decide +kernel), List.mem_of_getElem? (i := 976) (by decide +kernel)⟩
theorem lw_p45 : lw_okq (⟨"RainCover", "isYear", "(II)Z"⟩, 20) := ⟨⟨by decide +kernel, by decide +kernel⟩, List.mem_of_getElem? (i := 28) (by decide +kernel), List.mem_of_getElem? (i := 979) (by decide +kernel), List.mem_of_getElem? (i := 980) (by decide +kernel)⟩
theorem lw_p46 : lw_okq (⟨"RainCover", "rowLasts", "(JIII)Z"⟩, 20) := ⟨⟨by decide +kernel, by decide +kernel⟩, List.mem_of_getElem? (i := 28) (by decide +kernel), List.mem_of_getElem? (i := 983) (by decide +kernel), List.mem_of_getElem? (i := 984) (by decide +kernel)⟩
theorem lw_p47 : lw_okq (⟨"RainCover", "settleFarm", "(LRainCover$Farm;II)V"⟩, 20) := ⟨⟨by decide +kernel, by decide +kernel⟩, List.mem_of_getElem? (i := 28) (by decide +kernel), List.mem_of_getElem? (i := 996) (by decide +kernel), List.mem_of_getElem? (i := 997) (by decide +kernel)⟩
def lw_privs_3 : List (MethodName × Nat) := [(⟨"RainCover", "bandOf", "(I)I"⟩, 20), (⟨"RainCover", "missOf", "(II)I"⟩, 20), (⟨"RainCover", "gatherGaugeDistances", "()V"⟩, 20), (⟨"RainCover", "farFor", "(I)I"⟩, 20), (⟨"RainCover", "isOffer", "(IIII)Z"⟩, 20), (⟨"RainCover", "gatherPays", "(IIII)I"⟩, 20), (⟨"RainCover", "isKnown", "(II)Z"⟩, 20), (⟨"RainCover", "sumOfPays", "()J"⟩, 20), (⟨"RainCover", "priceOf", "(IIII)I"⟩, 20), (⟨"RainCover", "gatherSpliced", "(IIII)V"⟩, 20), (⟨"RainCover", "incomeIn", "(I)I"⟩, 20), (⟨"RainCover", "totalOf", "(II)I"⟩, 20), (⟨"RainCover", "gatherTotals", "(I)I"⟩, 20), (⟨"RainCover", "isYear", "(II)Z"⟩, 20), (⟨"RainCover", "rowLasts", "(JIII)Z"⟩, 20), (⟨"RainCover", "settleFarm", "(LRainCover$Farm;II)V"⟩, 20)]
theorem lw_r3 : ∀ q ∈ lw_privs_3, lw_okq q := List.forall_mem_cons.mpr ⟨lw_p32, List.forall_mem_cons.mpr ⟨lw_p33, List.forall_mem_cons.mpr ⟨lw_p34, List.forall_mem_cons.mpr ⟨lw_p35, List.forall_mem_cons.mpr ⟨lw_p36, List.forall_mem_cons.mpr ⟨lw_p37, List.forall_mem_cons.mpr ⟨lw_p38, List.forall_mem_cons.mpr ⟨lw_p39, List.forall_mem_cons.mpr ⟨lw_p40, List.forall_mem_cons.mpr ⟨lw_p41, List.forall_mem_cons.mpr ⟨lw_p42, List.forall_mem_cons.mpr ⟨lw_p43, List.forall_mem_cons.mpr ⟨lw_p44, List.forall_mem_cons.mpr ⟨lw_p45, List.forall_mem_cons.mpr ⟨lw_p46, List.forall_mem_cons.mpr ⟨lw_p47, fun _ h => absurd h List.not_mem_nil⟩⟩⟩⟩⟩⟩⟩⟩⟩⟩⟩⟩⟩⟩⟩⟩
theorem lw_p48 : lw_okq (⟨"RainCover", "isKin", "(II)Z"⟩, 20) := ⟨⟨by decide +kernel, by decide +kernel⟩, List.mem_of_getElem? (i := 28) (by decide +kernel), List.mem_of_getElem? (i := 1032) (by decide +kernel), List.mem_of_getElem? (i := 1033) (by decide +kernel)⟩
theorem lw_p49 : lw_okq (⟨"RainCover", "hurtOf", "(II)I"⟩, 20) := ⟨⟨by decide +kernel, by decide +kernel⟩, List.mem_of_getElem? (i := 28) (by decide +kernel), List.mem_of_getElem? (i := 1036) (by decide +kernel), List.mem_of_getElem? (i := 1037) (by decide +kernel)⟩
theorem lw_p50 : lw_okq (⟨"RainCover", "award", "(II)V"⟩, 20) := ⟨⟨by decide +kernel, by decide +kernel⟩, List.mem_of_getElem? (i := 28) (by decide +kernel), List.mem_of_getElem? (i := 1040) (by decide +kernel), List.mem_of_getElem? (i := 1041) (by decide +kernel)⟩
theorem lw_p51 : lw_okq (⟨"RainCover", "kinOf", "(I)I"⟩, 20) := ⟨⟨by decide +kernel, by decide +kernel⟩, List.mem_of_getElem? (i := 28) (by decide +kernel), List.mem_of_getElem? (i := 1048) (by decide +kernel), List.mem_of_getElem? (i := 1049) (by decide +kernel)⟩
theorem lw_p52 : lw_okq (⟨"RainCover", "dueOfGroup", "(II)J"⟩, 20) := ⟨⟨by decide +kernel, by decide +kernel⟩, List.mem_of_getElem? (i := 28) (by decide +kernel), List.mem_of_getElem? (i := 1068) (by decide +kernel), List.mem_of_getElem? (i := 1069) (by decide +kernel)⟩
theorem lw_p53 : lw_okq (⟨"RainCover", "ruleOf", "(I)I"⟩, 20) := ⟨⟨by decide +kernel, by decide +kernel⟩, List.mem_of_getElem? (i := 28) (by decide +kernel), List.mem_of_getElem? (i := 1072) (by decide +kernel), List.mem_of_getElem? (i := 1073) (by decide +kernel)⟩
theorem lw_p54 : lw_okq (⟨"RainCover", "votesFor", "(II)I"⟩, 20) := ⟨⟨by decide +kernel, by decide +kernel⟩, List.mem_of_getElem? (i := 28) (by decide +kernel), List.mem_of_getElem? (i := 1076) (by decide +kernel), List.mem_of_getElem? (i := 1077) (by decide +kernel)⟩
theorem lw_p55 : lw_okq (⟨"RainCover", "weightOfGroup", "(III)J"⟩, 20) := ⟨⟨by decide +kernel, by decide +kernel⟩, List.mem_of_getElem? (i := 28) (by decide +kernel), List.mem_of_getElem? (i := 1080) (by decide +kernel), List.mem_of_getElem? (i := 1081) (by decide +kernel)⟩
theorem lw_p56 : lw_okq (⟨"RainCover", "weightOf", "(LRainCover$Farm;II)J"⟩, 20) := ⟨⟨by decide +kernel, by decide +kernel⟩, List.mem_of_getElem? (i := 28) (by decide +kernel), List.mem_of_getElem? (i := 1084) (by decide +kernel), List.mem_of_getElem? (i := 1085) (by decide +kernel)⟩
theorem lw_p57 : lw_okq (⟨"RainCoverModel", "clears", "(I)V"⟩, 77) := ⟨⟨by decide +kernel, by decide +kernel⟩, List.mem_of_getElem? (i := 1187) (by decide +kernel), List.mem_of_getElem? (i := 1193) (by decide +kernel), List.mem_of_getElem? (i := 1194) (by decide +kernel)⟩
theorem lw_p58 : lw_okq (⟨"RainCoverModel", "isGauge", "(I)Z"⟩, 77) := ⟨⟨by decide +kernel, by decide +kernel⟩, List.mem_of_getElem? (i := 1187) (by decide +kernel), List.mem_of_getElem? (i := 1446) (by decide +kernel), List.mem_of_getElem? (i := 1447) (by decide +kernel)⟩
theorem lw_p59 : lw_okq (⟨"RainCoverModel", "tells", "(ZII)V"⟩, 77) := ⟨⟨by decide +kernel, by decide +kernel⟩, List.mem_of_getElem? (i := 1187) (by decide +kernel), List.mem_of_getElem? (i := 1464) (by decide +kernel), List.mem_of_getElem? (i := 1465) (by decide +kernel)⟩
theorem lw_p60 : lw_okq (⟨"RainCoverModel", "known", "(I)I"⟩, 77) := ⟨⟨by decide +kernel, by decide +kernel⟩, List.mem_of_getElem? (i := 1187) (by decide +kernel), List.mem_of_getElem? (i := 1476) (by decide +kernel), List.mem_of_getElem? (i := 1477) (by decide +kernel)⟩
theorem lw_p61 : lw_okq (⟨"RainCoverModel", "isTold", "(IIII)Z"⟩, 77) := ⟨⟨by decide +kernel, by decide +kernel⟩, List.mem_of_getElem? (i := 1187) (by decide +kernel), List.mem_of_getElem? (i := 1491) (by decide +kernel), List.mem_of_getElem? (i := 1492) (by decide +kernel)⟩
theorem lw_p62 : lw_okq (⟨"RainCoverModel", "rainOf", "(IIII)I"⟩, 77) := ⟨⟨by decide +kernel, by decide +kernel⟩, List.mem_of_getElem? (i := 1187) (by decide +kernel), List.mem_of_getElem? (i := 1495) (by decide +kernel), List.mem_of_getElem? (i := 1496) (by decide +kernel)⟩
theorem lw_p63 : lw_okq (⟨"RainCoverModel", "filledOf", "(IIII)I"⟩, 77) := ⟨⟨by decide +kernel, by decide +kernel⟩, List.mem_of_getElem? (i := 1187) (by decide +kernel), List.mem_of_getElem? (i := 1503) (by decide +kernel), List.mem_of_getElem? (i := 1504) (by decide +kernel)⟩
def lw_privs_4 : List (MethodName × Nat) := [(⟨"RainCover", "isKin", "(II)Z"⟩, 20), (⟨"RainCover", "hurtOf", "(II)I"⟩, 20), (⟨"RainCover", "award", "(II)V"⟩, 20), (⟨"RainCover", "kinOf", "(I)I"⟩, 20), (⟨"RainCover", "dueOfGroup", "(II)J"⟩, 20), (⟨"RainCover", "ruleOf", "(I)I"⟩, 20), (⟨"RainCover", "votesFor", "(II)I"⟩, 20), (⟨"RainCover", "weightOfGroup", "(III)J"⟩, 20), (⟨"RainCover", "weightOf", "(LRainCover$Farm;II)J"⟩, 20), (⟨"RainCoverModel", "clears", "(I)V"⟩, 77), (⟨"RainCoverModel", "isGauge", "(I)Z"⟩, 77), (⟨"RainCoverModel", "tells", "(ZII)V"⟩, 77), (⟨"RainCoverModel", "known", "(I)I"⟩, 77), (⟨"RainCoverModel", "isTold", "(IIII)Z"⟩, 77), (⟨"RainCoverModel", "rainOf", "(IIII)I"⟩, 77), (⟨"RainCoverModel", "filledOf", "(IIII)I"⟩, 77)]
theorem lw_r4 : ∀ q ∈ lw_privs_4, lw_okq q := List.forall_mem_cons.mpr ⟨lw_p48, List.forall_mem_cons.mpr ⟨lw_p49, List.forall_mem_cons.mpr ⟨lw_p50, List.forall_mem_cons.mpr ⟨lw_p51, List.forall_mem_cons.mpr ⟨lw_p52, List.forall_mem_cons.mpr ⟨lw_p53, List.forall_mem_cons.mpr ⟨lw_p54, List.forall_mem_cons.mpr ⟨lw_p55, List.forall_mem_cons.mpr ⟨lw_p56, List.forall_mem_cons.mpr ⟨lw_p57, List.forall_mem_cons.mpr ⟨lw_p58, List.forall_mem_cons.mpr ⟨lw_p59, List.forall_mem_cons.mpr ⟨lw_p60, List.forall_mem_cons.mpr ⟨lw_p61, List.forall_mem_cons.mpr ⟨lw_p62, List.forall_mem_cons.mpr ⟨lw_p63, fun _ h => absurd h List.not_mem_nil⟩⟩⟩⟩⟩⟩⟩⟩⟩⟩⟩⟩⟩⟩⟩⟩
theorem lw_p64 : lw_okq (⟨"RainCoverModel", "areNear", "(II)Z"⟩, 77) := ⟨⟨by decide +kernel, by decide +kernel⟩, List.mem_of_getElem? (i := 1187) (by decide +kernel), List.mem_of_getElem? (i := 1507) (by decide +kernel), List.mem_of_getElem? (i := 1508) (by decide +kernel)⟩
theorem lw_p65 : lw_okq (⟨"RainCoverModel", "between", "(II)I"⟩, 77) := ⟨⟨by decide +kernel, by decide +kernel⟩, List.mem_of_getElem? (i := 1187) (by decide +kernel), List.mem_of_getElem? (i := 1511) (by decide +kernel), List.mem_of_getElem? (i := 1512) (by decide +kernel)⟩
theorem lw_p66 : lw_okq (⟨"RainCoverModel", "edge", "(IIII)I"⟩, 77) := ⟨⟨by decide +kernel, by decide +kernel⟩, List.mem_of_getElem? (i := 1187) (by decide +kernel), List.mem_of_getElem? (i := 1522) (by decide +kernel), List.mem_of_getElem? (i := 1523) (by decide +kernel)⟩
theorem lw_p67 : lw_okq (⟨"RainCoverModel", "byteAt", "(I)I"⟩, 77) := ⟨⟨by decide +kernel, by decide +kernel⟩, List.mem_of_getElem? (i := 1187) (by decide +kernel), List.mem_of_getElem? (i := 1538) (by decide +kernel), List.mem_of_getElem? (i := 1539) (by decide +kernel)⟩
theorem lw_p68 : lw_okq (⟨"RainCoverModel", "readsRate", "(I)V"⟩, 77) := ⟨⟨by decide +kernel, by decide +kernel⟩, List.mem_of_getElem? (i := 1187) (by decide +kernel), List.mem_of_getElem? (i := 1542) (by decide +kernel), List.mem_of_getElem? (i := 1543) (by decide +kernel)⟩
theorem lw_p69 : lw_okq (⟨"RainCoverModel", "must", "(I)V"⟩, 77) := ⟨⟨by decide +kernel, by decide +kernel⟩, List.mem_of_getElem? (i := 1187) (by decide +kernel), List.mem_of_getElem? (i := 1546) (by decide +kernel), List.mem_of_getElem? (i := 1547) (by decide +kernel)⟩
theorem lw_p70 : lw_okq (⟨"RainCoverModel", "startOf", "(I)I"⟩, 77) := ⟨⟨by decide +kernel, by decide +kernel⟩, List.mem_of_getElem? (i := 1187) (by decide +kernel), List.mem_of_getElem? (i := 1550) (by decide +kernel), List.mem_of_getElem? (i := 1551) (by decide +kernel)⟩
theorem lw_p71 : lw_okq (⟨"RainCoverModel", "number", "(I)I"⟩, 77) := ⟨⟨by decide +kernel, by decide +kernel⟩, List.mem_of_getElem? (i := 1187) (by decide +kernel), List.mem_of_getElem? (i := 1554) (by decide +kernel), List.mem_of_getElem? (i := 1555) (by decide +kernel)⟩
theorem lw_p72 : lw_okq (⟨"RainCoverModel", "readsPay", "(I)V"⟩, 77) := ⟨⟨by decide +kernel, by decide +kernel⟩, List.mem_of_getElem? (i := 1187) (by decide +kernel), List.mem_of_getElem? (i := 1558) (by decide +kernel), List.mem_of_getElem? (i := 1559) (by decide +kernel)⟩
theorem lw_p73 : lw_okq (⟨"RainCoverModel", "readsCase", "(I)V"⟩, 77) := ⟨⟨by decide +kernel, by decide +kernel⟩, List.mem_of_getElem? (i := 1187) (by decide +kernel), List.mem_of_getElem? (i := 1562) (by decide +kernel), List.mem_of_getElem? (i := 1563) (by decide +kernel)⟩
theorem lw_p74 : lw_okq (⟨"RainCoverModel", "isGood", "(I)Z"⟩, 77) := ⟨⟨by decide +kernel, by decide +kernel⟩, List.mem_of_getElem? (i := 1187) (by decide +kernel), List.mem_of_getElem? (i := 1566) (by decide +kernel), List.mem_of_getElem? (i := 1567) (by decide +kernel)⟩
theorem lw_p75 : lw_okq (⟨"RainCoverModel", "isTerm", "(I)Z"⟩, 77) := ⟨⟨by decide +kernel, by decide +kernel⟩, List.mem_of_getElem? (i := 1187) (by decide +kernel), List.mem_of_getElem? (i := 1574) (by decide +kernel), List.mem_of_getElem? (i := 1575) (by decide +kernel)⟩
theorem lw_p76 : lw_okq (⟨"RainCoverModel", "payOf", "(IIIIII)I"⟩, 77) := ⟨⟨by decide +kernel, by decide +kernel⟩, List.mem_of_getElem? (i := 1187) (by decide +kernel), List.mem_of_getElem? (i := 1578) (by decide +kernel), List.mem_of_getElem? (i := 1579) (by decide +kernel)⟩
theorem lw_p77 : lw_okq (⟨"RainCoverModel", "sumOf", "(IIIII)I"⟩, 77) := ⟨⟨by decide +kernel, by decide +kernel⟩, List.mem_of_getElem? (i := 1187) (by decide +kernel), List.mem_of_getElem? (i := 1582) (by decide +kernel), List.mem_of_getElem? (i := 1583) (by decide +kernel)⟩
theorem lw_p78 : lw_okq (⟨"RainCoverModel", "seasonOf", "(II)I"⟩, 77) := ⟨⟨by decide +kernel, by decide +kernel⟩, List.mem_of_getElem? (i := 1187) (by decide +kernel), List.mem_of_getElem? (i := 1586) (by decide +kernel), List.mem_of_getElem? (i := 1587) (by decide +kernel)⟩
theorem lw_p79 : lw_okq (⟨"RainCoverModel", "isSo", "(IIIIII)Z"⟩, 77) := ⟨⟨by decide +kernel, by decide +kernel⟩, List.mem_of_getElem? (i := 1187) (by decide +kernel), List.mem_of_getElem? (i := 1590) (by decide +kernel), List.mem_of_getElem? (i := 1591) (by decide +kernel)⟩
def lw_privs_5 : List (MethodName × Nat) := [(⟨"RainCoverModel", "areNear", "(II)Z"⟩, 77), (⟨"RainCoverModel", "between", "(II)I"⟩, 77), (⟨"RainCoverModel", "edge", "(IIII)I"⟩, 77), (⟨"RainCoverModel", "byteAt", "(I)I"⟩, 77), (⟨"RainCoverModel", "readsRate", "(I)V"⟩, 77), (⟨"RainCoverModel", "must", "(I)V"⟩, 77), (⟨"RainCoverModel", "startOf", "(I)I"⟩, 77), (⟨"RainCoverModel", "number", "(I)I"⟩, 77), (⟨"RainCoverModel", "readsPay", "(I)V"⟩, 77), (⟨"RainCoverModel", "readsCase", "(I)V"⟩, 77), (⟨"RainCoverModel", "isGood", "(I)Z"⟩, 77), (⟨"RainCoverModel", "isTerm", "(I)Z"⟩, 77), (⟨"RainCoverModel", "payOf", "(IIIIII)I"⟩, 77), (⟨"RainCoverModel", "sumOf", "(IIIII)I"⟩, 77), (⟨"RainCoverModel", "seasonOf", "(II)I"⟩, 77), (⟨"RainCoverModel", "isSo", "(IIIIII)Z"⟩, 77)]
theorem lw_r5 : ∀ q ∈ lw_privs_5, lw_okq q := List.forall_mem_cons.mpr ⟨lw_p64, List.forall_mem_cons.mpr ⟨lw_p65, List.forall_mem_cons.mpr ⟨lw_p66, List.forall_mem_cons.mpr ⟨lw_p67, List.forall_mem_cons.mpr ⟨lw_p68, List.forall_mem_cons.mpr ⟨lw_p69, List.forall_mem_cons.mpr ⟨lw_p70, List.forall_mem_cons.mpr ⟨lw_p71, List.forall_mem_cons.mpr ⟨lw_p72, List.forall_mem_cons.mpr ⟨lw_p73, List.forall_mem_cons.mpr ⟨lw_p74, List.forall_mem_cons.mpr ⟨lw_p75, List.forall_mem_cons.mpr ⟨lw_p76, List.forall_mem_cons.mpr ⟨lw_p77, List.forall_mem_cons.mpr ⟨lw_p78, List.forall_mem_cons.mpr ⟨lw_p79, fun _ h => absurd h List.not_mem_nil⟩⟩⟩⟩⟩⟩⟩⟩⟩⟩⟩⟩⟩⟩⟩⟩
theorem lw_p80 : lw_okq (⟨"RainCoverModel", "dryOf", "(IIIIII)I"⟩, 77) := ⟨⟨by decide +kernel, by decide +kernel⟩, List.mem_of_getElem? (i := 1187) (by decide +kernel), List.mem_of_getElem? (i := 1594) (by decide +kernel), List.mem_of_getElem? (i := 1595) (by decide +kernel)⟩
theorem lw_p81 : lw_okq (⟨"RainCoverModel", "greenOf", "(IIIII)I"⟩, 77) := ⟨⟨by decide +kernel, by decide +kernel⟩, List.mem_of_getElem? (i := 1187) (by decide +kernel), List.mem_of_getElem? (i := 1598) (by decide +kernel), List.mem_of_getElem? (i := 1599) (by decide +kernel)⟩
theorem lw_p82 : lw_okq (⟨"RainCoverModel", "isFarm", "(I)Z"⟩, 77) := ⟨⟨by decide +kernel, by decide +kernel⟩, List.mem_of_getElem? (i := 1187) (by decide +kernel), List.mem_of_getElem? (i := 1614) (by decide +kernel), List.mem_of_getElem? (i := 1615) (by decide +kernel)⟩
theorem lw_p83 : lw_okq (⟨"RainCoverModel", "coverOf", "(II)I"⟩, 77) := ⟨⟨by decide +kernel, by decide +kernel⟩, List.mem_of_getElem? (i := 1187) (by decide +kernel), List.mem_of_getElem? (i := 1618) (by decide +kernel), List.mem_of_getElem? (i := 1619) (by decide +kernel)⟩
theorem lw_p84 : lw_okq (⟨"RainCoverModel", "gaugeOf", "(II)I"⟩, 77) := ⟨⟨by decide +kernel, by decide +kernel⟩, List.mem_of_getElem? (i := 1187) (by decide +kernel), List.mem_of_getElem? (i := 1630) (by decide +kernel), List.mem_of_getElem? (i := 1631) (by decide +kernel)⟩
theorem lw_p85 : lw_okq (⟨"RainCoverModel", "farFrom", "(III)I"⟩, 77) := ⟨⟨by decide +kernel, by decide +kernel⟩, List.mem_of_getElem? (i := 1187) (by decide +kernel), List.mem_of_getElem? (i := 1634) (by decide +kernel), List.mem_of_getElem? (i := 1635) (by decide +kernel)⟩
theorem lw_p86 : lw_okq (⟨"RainCoverModel", "stands", "(II)Z"⟩, 77) := ⟨⟨by decide +kernel, by decide +kernel⟩, List.mem_of_getElem? (i := 1187) (by decide +kernel), List.mem_of_getElem? (i := 1638) (by decide +kernel), List.mem_of_getElem? (i := 1639) (by decide +kernel)⟩
theorem lw_p87 : lw_okq (⟨"RainCoverModel", "termOf", "(II)I"⟩, 77) := ⟨⟨by decide +kernel, by decide +kernel⟩, List.mem_of_getElem? (i := 1187) (by decide +kernel), List.mem_of_getElem? (i := 1642) (by decide +kernel), List.mem_of_getElem? (i := 1643) (by decide +kernel)⟩
theorem lw_p88 : lw_okq (⟨"RainCoverModel", "farmPay", "(IIII)I"⟩, 77) := ⟨⟨by decide +kernel, by decide +kernel⟩, List.mem_of_getElem? (i := 1187) (by decide +kernel), List.mem_of_getElem? (i := 1646) (by decide +kernel), List.mem_of_getElem? (i := 1647) (by decide +kernel)⟩
theorem lw_p89 : lw_okq (⟨"RainCoverModel", "plantOf", "(I)I"⟩, 77) := ⟨⟨by decide +kernel, by decide +kernel⟩, List.mem_of_getElem? (i := 1187) (by decide +kernel), List.mem_of_getElem? (i := 1650) (by decide +kernel), List.mem_of_getElem? (i := 1651) (by decide +kernel)⟩
theorem lw_p90 : lw_okq (⟨"RainCoverModel", "dueOf", "(III)I"⟩, 77) := ⟨⟨by decide +kernel, by decide +kernel⟩, List.mem_of_getElem? (i := 1187) (by decide +kernel), List.mem_of_getElem? (i := 1658) (by decide +kernel), List.mem_of_getElem? (i := 1659) (by decide +kernel)⟩
theorem lw_p91 : lw_okq (⟨"RainCoverModel", "lookOf", "(II)I"⟩, 77) := ⟨⟨by decide +kernel, by decide +kernel⟩, List.mem_of_getElem? (i := 1187) (by decide +kernel), List.mem_of_getElem? (i := 1670) (by decide +kernel), List.mem_of_getElem? (i := 1671) (by decide +kernel)⟩
theorem lw_p92 : lw_okq (⟨"RainCoverModel", "far", "(I)I"⟩, 77) := ⟨⟨by decide +kernel, by decide +kernel⟩, List.mem_of_getElem? (i := 1187) (by decide +kernel), List.mem_of_getElem? (i := 1696) (by decide +kernel), List.mem_of_getElem? (i := 1697) (by decide +kernel)⟩
theorem lw_p93 : lw_okq (⟨"RainCoverModel", "isAsked", "(IIII)Z"⟩, 77) := ⟨⟨by decide +kernel, by decide +kernel⟩, List.mem_of_getElem? (i := 1187) (by decide +kernel), List.mem_of_getElem? (i := 1707) (by decide +kernel), List.mem_of_getElem? (i := 1708) (by decide +kernel)⟩
theorem lw_p94 : lw_okq (⟨"RainCoverModel", "knowns", "(I)I"⟩, 77) := ⟨⟨by decide +kernel, by decide +kernel⟩, List.mem_of_getElem? (i := 1187) (by decide +kernel), List.mem_of_getElem? (i := 1711) (by decide +kernel), List.mem_of_getElem? (i := 1712) (by decide +kernel)⟩
theorem lw_p95 : lw_okq (⟨"RainCoverModel", "isKnown", "(II)Z"⟩, 77) := ⟨⟨by decide +kernel, by decide +kernel⟩, List.mem_of_getElem? (i := 1187) (by decide +kernel), List.mem_of_getElem? (i := 1715) (by decide +kernel), List.mem_of_getElem? (i := 1716) (by decide +kernel)⟩
def lw_privs_6 : List (MethodName × Nat) := [(⟨"RainCoverModel", "dryOf", "(IIIIII)I"⟩, 77), (⟨"RainCoverModel", "greenOf", "(IIIII)I"⟩, 77), (⟨"RainCoverModel", "isFarm", "(I)Z"⟩, 77), (⟨"RainCoverModel", "coverOf", "(II)I"⟩, 77), (⟨"RainCoverModel", "gaugeOf", "(II)I"⟩, 77), (⟨"RainCoverModel", "farFrom", "(III)I"⟩, 77), (⟨"RainCoverModel", "stands", "(II)Z"⟩, 77), (⟨"RainCoverModel", "termOf", "(II)I"⟩, 77), (⟨"RainCoverModel", "farmPay", "(IIII)I"⟩, 77), (⟨"RainCoverModel", "plantOf", "(I)I"⟩, 77), (⟨"RainCoverModel", "dueOf", "(III)I"⟩, 77), (⟨"RainCoverModel", "lookOf", "(II)I"⟩, 77), (⟨"RainCoverModel", "far", "(I)I"⟩, 77), (⟨"RainCoverModel", "isAsked", "(IIII)Z"⟩, 77), (⟨"RainCoverModel", "knowns", "(I)I"⟩, 77), (⟨"RainCoverModel", "isKnown", "(II)Z"⟩, 77)]
theorem lw_r6 : ∀ q ∈ lw_privs_6, lw_okq q := List.forall_mem_cons.mpr ⟨lw_p80, List.forall_mem_cons.mpr ⟨lw_p81, List.forall_mem_cons.mpr ⟨lw_p82, List.forall_mem_cons.mpr ⟨lw_p83, List.forall_mem_cons.mpr ⟨lw_p84, List.forall_mem_cons.mpr ⟨lw_p85, List.forall_mem_cons.mpr ⟨lw_p86, List.forall_mem_cons.mpr ⟨lw_p87, List.forall_mem_cons.mpr ⟨lw_p88, List.forall_mem_cons.mpr ⟨lw_p89, List.forall_mem_cons.mpr ⟨lw_p90, List.forall_mem_cons.mpr ⟨lw_p91, List.forall_mem_cons.mpr ⟨lw_p92, List.forall_mem_cons.mpr ⟨lw_p93, List.forall_mem_cons.mpr ⟨lw_p94, List.forall_mem_cons.mpr ⟨lw_p95, fun _ h => absurd h List.not_mem_nil⟩⟩⟩⟩⟩⟩⟩⟩⟩⟩⟩⟩⟩⟩⟩⟩
theorem lw_p96 : lw_okq (⟨"RainCoverModel", "paid", "(IIII)I"⟩, 77) := ⟨⟨by decide +kernel, by decide +kernel⟩, List.mem_of_getElem? (i := 1187) (by decide +kernel), List.mem_of_getElem? (i := 1719) (by decide +kernel), List.mem_of_getElem? (i := 1720) (by decide +kernel)⟩
theorem lw_p97 : lw_okq (⟨"RainCoverModel", "priceOf", "(IIII)I"⟩, 77) := ⟨⟨by decide +kernel, by decide +kernel⟩, List.mem_of_getElem? (i := 1187) (by decide +kernel), List.mem_of_getElem? (i := 1727) (by decide +kernel), List.mem_of_getElem? (i := 1728) (by decide +kernel)⟩
theorem lw_p98 : lw_okq (⟨"RainCoverModel", "incomeOf", "(I)I"⟩, 77) := ⟨⟨by decide +kernel, by decide +kernel⟩, List.mem_of_getElem? (i := 1187) (by decide +kernel), List.mem_of_getElem? (i := 1748) (by decide +kernel), List.mem_of_getElem? (i := 1749) (by decide +kernel)⟩
theorem lw_p99 : lw_okq (⟨"RainCoverModel", "totalOf", "(II)I"⟩, 77) := ⟨⟨by decide +kernel, by decide +kernel⟩, List.mem_of_getElem? (i := 1187) (by decide +kernel), List.mem_of_getElem? (i := 1756) (by decide +kernel), List.mem_of_getElem? (i := 1757) (by decide +kernel)⟩
theorem lw_p100 : lw_okq (⟨"RainCoverModel", "years", "(I)I"⟩, 77) := ⟨⟨by decide +kernel, by decide +kernel⟩, List.mem_of_getElem? (i := 1187) (by decide +kernel), List.mem_of_getElem? (i := 1773) (by decide +kernel), List.mem_of_getElem? (i := 1774) (by decide +kernel)⟩
theorem lw_p101 : lw_okq (⟨"RainCoverModel", "owed", "(II)I"⟩, 77) := ⟨⟨by decide +kernel, by decide +kernel⟩, List.mem_of_getElem? (i := 1187) (by decide +kernel), List.mem_of_getElem? (i := 1782) (by decide +kernel), List.mem_of_getElem? (i := 1783) (by decide +kernel)⟩
theorem lw_p102 : lw_okq (⟨"RainCoverModel", "pays", "(III)V"⟩, 77) := ⟨⟨by decide +kernel, by decide +kernel⟩, List.mem_of_getElem? (i := 1187) (by decide +kernel), List.mem_of_getElem? (i := 1786) (by decide +kernel), List.mem_of_getElem? (i := 1787) (by decide +kernel)⟩
theorem lw_p103 : lw_okq (⟨"RainCoverModel", "isPayment", "(I)Z"⟩, 77) := ⟨⟨by decide +kernel, by decide +kernel⟩, List.mem_of_getElem? (i := 1187) (by decide +kernel), List.mem_of_getElem? (i := 1794) (by decide +kernel), List.mem_of_getElem? (i := 1795) (by decide +kernel)⟩
theorem lw_p104 : lw_okq (⟨"RainCoverModel", "isKin", "(II)Z"⟩, 77) := ⟨⟨by decide +kernel, by decide +kernel⟩, List.mem_of_getElem? (i := 1187) (by decide +kernel), List.mem_of_getElem? (i := 1820) (by decide +kernel), List.mem_of_getElem? (i := 1821) (by decide +kernel)⟩
theorem lw_p105 : lw_okq (⟨"RainCoverModel", "hurt", "(II)I"⟩, 77) := ⟨⟨by decide +kernel, by decide +kernel⟩, List.mem_of_getElem? (i := 1187) (by decide +kernel), List.mem_of_getElem? (i := 1824) (by decide +kernel), List.mem_of_getElem? (i := 1825) (by decide +kernel)⟩
theorem lw_p106 : lw_okq (⟨"RainCoverModel", "votes", "(II)I"⟩, 77) := ⟨⟨by decide +kernel, by decide +kernel⟩, List.mem_of_getElem? (i := 1187) (by decide +kernel), List.mem_of_getElem? (i := 1848) (by decide +kernel), List.mem_of_getElem? (i := 1849) (by decide +kernel)⟩
theorem lw_p107 : lw_okq (⟨"RainCoverModel", "weight", "(III)J"⟩, 77) := ⟨⟨by decide +kernel, by decide +kernel⟩, List.mem_of_getElem? (i := 1187) (by decide +kernel), List.mem_of_getElem? (i := 1852) (by decide +kernel), List.mem_of_getElem? (i := 1853) (by decide +kernel)⟩
theorem lw_p108 : lw_okq (⟨"RainCoverModel", "drinks", "(II)I"⟩, 77) := ⟨⟨by decide +kernel, by decide +kernel⟩, List.mem_of_getElem? (i := 1187) (by decide +kernel), List.mem_of_getElem? (i := 1860) (by decide +kernel), List.mem_of_getElem? (i := 1861) (by decide +kernel)⟩
theorem lw_p109 : lw_okq (⟨"RainCoverModel", "body", "(I)V"⟩, 77) := ⟨⟨by decide +kernel, by decide +kernel⟩, List.mem_of_getElem? (i := 1187) (by decide +kernel), List.mem_of_getElem? (i := 1864) (by decide +kernel), List.mem_of_getElem? (i := 1865) (by decide +kernel)⟩
theorem lw_p110 : lw_okq (⟨"RainCoverModel", "drinksCrop", "(II)I"⟩, 77) := ⟨⟨by decide +kernel, by decide +kernel⟩, List.mem_of_getElem? (i := 1187) (by decide +kernel), List.mem_of_getElem? (i := 1868) (by decide +kernel), List.mem_of_getElem? (i := 1869) (by decide +kernel)⟩
theorem lw_p111 : lw_okq (⟨"RainCoverModel", "wilts", "(II)I"⟩, 77) := ⟨⟨by decide +kernel, by decide +kernel⟩, List.mem_of_getElem? (i := 1187) (by decide +kernel), List.mem_of_getElem? (i := 1872) (by decide +kernel), List.mem_of_getElem? (i := 1873) (by decide +kernel)⟩
def lw_privs_7 : List (MethodName × Nat) := [(⟨"RainCoverModel", "paid", "(IIII)I"⟩, 77), (⟨"RainCoverModel", "priceOf", "(IIII)I"⟩, 77), (⟨"RainCoverModel", "incomeOf", "(I)I"⟩, 77), (⟨"RainCoverModel", "totalOf", "(II)I"⟩, 77), (⟨"RainCoverModel", "years", "(I)I"⟩, 77), (⟨"RainCoverModel", "owed", "(II)I"⟩, 77), (⟨"RainCoverModel", "pays", "(III)V"⟩, 77), (⟨"RainCoverModel", "isPayment", "(I)Z"⟩, 77), (⟨"RainCoverModel", "isKin", "(II)Z"⟩, 77), (⟨"RainCoverModel", "hurt", "(II)I"⟩, 77), (⟨"RainCoverModel", "votes", "(II)I"⟩, 77), (⟨"RainCoverModel", "weight", "(III)J"⟩, 77), (⟨"RainCoverModel", "drinks", "(II)I"⟩, 77), (⟨"RainCoverModel", "body", "(I)V"⟩, 77), (⟨"RainCoverModel", "drinksCrop", "(II)I"⟩, 77), (⟨"RainCoverModel", "wilts", "(II)I"⟩, 77)]
theorem lw_r7 : ∀ q ∈ lw_privs_7, lw_okq q := List.forall_mem_cons.mpr ⟨lw_p96, List.forall_mem_cons.mpr ⟨lw_p97, List.forall_mem_cons.mpr ⟨lw_p98, List.forall_mem_cons.mpr ⟨lw_p99, List.forall_mem_cons.mpr ⟨lw_p100, List.forall_mem_cons.mpr ⟨lw_p101, List.forall_mem_cons.mpr ⟨lw_p102, List.forall_mem_cons.mpr ⟨lw_p103, List.forall_mem_cons.mpr ⟨lw_p104, List.forall_mem_cons.mpr ⟨lw_p105, List.forall_mem_cons.mpr ⟨lw_p106, List.forall_mem_cons.mpr ⟨lw_p107, List.forall_mem_cons.mpr ⟨lw_p108, List.forall_mem_cons.mpr ⟨lw_p109, List.forall_mem_cons.mpr ⟨lw_p110, List.forall_mem_cons.mpr ⟨lw_p111, fun _ h => absurd h List.not_mem_nil⟩⟩⟩⟩⟩⟩⟩⟩⟩⟩⟩⟩⟩⟩⟩⟩
theorem lw_p112 : lw_okq (⟨"RainCoverModel", "wiltsCrop", "(II)I"⟩, 77) := ⟨⟨by decide +kernel, by decide +kernel⟩, List.mem_of_getElem? (i := 1187) (by decide +kernel), List.mem_of_getElem? (i := 1876) (by decide +kernel), List.mem_of_getElem? (i := 1877) (by decide +kernel)⟩
theorem lw_p113 : lw_okq (⟨"RainCoverModel", "yields", "(II)I"⟩, 77) := ⟨⟨by decide +kernel, by decide +kernel⟩, List.mem_of_getElem? (i := 1187) (by decide +kernel), List.mem_of_getElem? (i := 1880) (by decide +kernel), List.mem_of_getElem? (i := 1881) (by decide +kernel)⟩
theorem lw_p114 : lw_okq (⟨"RainCoverModel", "yieldsCrop", "(II)I"⟩, 77) := ⟨⟨by decide +kernel, by decide +kernel⟩, List.mem_of_getElem? (i := 1187) (by decide +kernel), List.mem_of_getElem? (i := 1884) (by decide +kernel), List.mem_of_getElem? (i := 1885) (by decide +kernel)⟩
def lw_privs_8 : List (MethodName × Nat) := [(⟨"RainCoverModel", "wiltsCrop", "(II)I"⟩, 77), (⟨"RainCoverModel", "yields", "(II)I"⟩, 77), (⟨"RainCoverModel", "yieldsCrop", "(II)I"⟩, 77)]
theorem lw_r8 : ∀ q ∈ lw_privs_8, lw_okq q := List.forall_mem_cons.mpr ⟨lw_p112, List.forall_mem_cons.mpr ⟨lw_p113, List.forall_mem_cons.mpr ⟨lw_p114, fun _ h => absurd h List.not_mem_nil⟩⟩⟩
def lw_privs : List (MethodName × Nat) := lw_privs_1 ++ (lw_privs_2 ++ (lw_privs_3 ++ (lw_privs_4 ++ (lw_privs_5 ++ (lw_privs_6 ++ (lw_privs_7 ++ (lw_privs_8)))))))
def lw_tbl : List Cond := k2_sels lw_privs ++ tables_1
theorem lw_privs_ok : ∀ q ∈ lw_privs, lw_okq q := by
  show ∀ q ∈ lw_privs_1 ++ (lw_privs_2 ++ (lw_privs_3 ++ (lw_privs_4 ++ (lw_privs_5 ++ (lw_privs_6 ++ (lw_privs_7 ++ (lw_privs_8))))))), lw_okq q
  exact List.forall_mem_append.mpr ⟨lw_r1, List.forall_mem_append.mpr ⟨lw_r2, List.forall_mem_append.mpr ⟨lw_r3, List.forall_mem_append.mpr ⟨lw_r4, List.forall_mem_append.mpr ⟨lw_r5, List.forall_mem_append.mpr ⟨lw_r6, List.forall_mem_append.mpr ⟨lw_r7, lw_r8⟩⟩⟩⟩⟩⟩⟩
/-! ===== BEGIN words of one list among another's, by their places ===== -/
theorem goodIn_r {big : List Cond} (ws : List Cond) (ps : List Nat) (hp : ws = ps.filterMap (fun i => big[i]?)) (h : ws.all goodWord = true) : GoodIn big ws := by
  intro w hw
  have h1 := List.all_eq_true.mp h w hw
  rw [hp] at hw
  obtain ⟨i, -, hi⟩ := List.mem_filterMap.mp hw
  have hm : w ∈ big := by first | exact List.mem_of_getElem? hi | exact List.getElem?_mem hi
  exact ⟨hm, good_of_word h1⟩
theorem goodIn_app {big a b : List Cond} (ha : GoodIn big a) (hb : GoodIn big b) : GoodIn big (a ++ b) := fun w h => (List.mem_append.mp h).elim (ha w) (hb w)
theorem goodIn_ca {big a b : List Cond} {c : Cond} (ha : GoodIn big (c :: a)) (hb : GoodIn big b) : GoodIn big (c :: (a ++ b)) := fun w h => (List.mem_cons.mp h).elim (fun e => ha w (List.mem_cons.mpr (Or.inl e))) (fun h => (List.mem_append.mp h).elim (fun h => ha w (List.mem_cons.mpr (Or.inr h))) (hb w))
theorem goodIn_sub {big ws : List Cond} (hm : ∀ w ∈ ws, w ∈ big) (h : ws.all goodWord = true) : GoodIn big ws := fun w hw => ⟨hm w hw, good_of_word (List.all_eq_true.mp h w hw)⟩
/-! ===== END ===== -/

/-! ===== BEGIN printed: names, fields, word lists, decode rows ===== -/
def RX0 : String := "RainCover$Bean"
def TX0 : u_T := fun k => match k with
  | 0 => ("RainCover$Crop", "number", "I", true)
  | 1 => ("RainCover$Crop", "area", "I", true)
  | 2 => ("RainCover$Crop", "bodies", "[I", true)
  | _ => ("RainCover$Crop", "ran", "I", false)
def tyX0 : Nat → FieldType := fun k => match k with
  | 0 => .int
  | 1 => .int
  | 2 => .array .int
  | _ => .int
abbrev wsX00 : List Cond := u_ws RX0 TX0 4
theorem nmX0 : ∀ a, a < 4 → ∀ b, b < 4 → a ≠ b → (TX0 a).2.1 ≠ (TX0 b).2.1 := by decide +kernel
theorem tyX0_ok : ∀ k, k < 4 → parseFieldDescriptor (TX0 k).2.2.1 = some (tyX0 k) := by decide +kernel
abbrev cX0_init : ByteArray := prog_2_method_1_code
def yX0_init : MethodName := ⟨RX0, "<init>", "(II)V"⟩
abbrev cX0_kind : ByteArray := prog_2_method_2_code
def yX0_kind : MethodName := ⟨RX0, "kind", "()I"⟩
abbrev cX0_wilts : ByteArray := prog_2_method_3_code
def yX0_wilts : MethodName := ⟨RX0, "wilts", "(I)I"⟩
abbrev cX0_drinks : ByteArray := prog_2_method_4_code
def yX0_drinks : MethodName := ⟨RX0, "drinks", "(I)I"⟩
def RX1 : String := "RainCover$Crop"
def TX1 : u_T := fun k => match k with
  | 0 => ("RainCover$Crop", "number", "I", true)
  | 1 => ("RainCover$Crop", "area", "I", true)
  | 2 => ("RainCover$Crop", "bodies", "[I", true)
  | _ => ("RainCover$Crop", "ran", "I", false)
def tyX1 : Nat → FieldType := fun k => match k with
  | 0 => .int
  | 1 => .int
  | 2 => .array .int
  | _ => .int
abbrev wsX10 : List Cond := u_ws RX1 TX1 4
theorem nmX1 : ∀ a, a < 4 → ∀ b, b < 4 → a ≠ b → (TX1 a).2.1 ≠ (TX1 b).2.1 := by decide +kernel
theorem tyX1_ok : ∀ k, k < 4 → parseFieldDescriptor (TX1 k).2.2.1 = some (tyX1 k) := by decide +kernel
abbrev cX1_init : ByteArray := prog_3_method_1_code
def yX1_init : MethodName := ⟨RX1, "<init>", "(II)V"⟩
abbrev cX1_runs : ByteArray := prog_3_method_2_code
def yX1_runs : MethodName := ⟨RX1, "runs", "(I)V"⟩
abbrev cX1_kind : ByteArray := prog_3_method_3_code
def yX1_kind : MethodName := ⟨RX1, "kind", "()I"⟩
abbrev cX1_drinks : ByteArray := prog_3_method_4_code
def yX1_drinks : MethodName := ⟨RX1, "drinks", "(I)I"⟩
abbrev cX1_wilts : ByteArray := prog_3_method_5_code
def yX1_wilts : MethodName := ⟨RX1, "wilts", "(I)I"⟩
abbrev cX1_yields : ByteArray := prog_3_method_6_code
def yX1_yields : MethodName := ⟨RX1, "yields", "(I)I"⟩
def RX2 : String := "RainCover$Farm"
def TX2 : u_T := fun k => match k with
  | 0 => ("RainCover$Farm", "number", "I", true)
  | 1 => ("RainCover$Farm", "x", "I", true)
  | 2 => ("RainCover$Farm", "y", "I", true)
  | 3 => ("RainCover$Farm", "area", "I", true)
  | 4 => ("RainCover$Farm", "crop", "LRainCover$Crop;", true)
  | 5 => ("RainCover$Farm", "settled", "[I", true)
  | 6 => ("RainCover$Farm", "owes", "I", false)
  | 7 => ("RainCover$Farm", "circle", "I", false)
  | _ => ("RainCover$Farm", "choice", "I", false)
def tyX2 : Nat → FieldType := fun k => match k with
  | 0 => .int
  | 1 => .int
  | 2 => .int
  | 3 => .int
  | 4 => .object "RainCover$Crop"
  | 5 => .array .int
  | 6 => .int
  | 7 => .int
  | _ => .int
abbrev wsX20 : List Cond := u_ws RX2 TX2 9
theorem nmX2 : ∀ a, a < 9 → ∀ b, b < 9 → a ≠ b → (TX2 a).2.1 ≠ (TX2 b).2.1 := by decide +kernel
theorem tyX2_ok : ∀ k, k < 9 → parseFieldDescriptor (TX2 k).2.2.1 = some (tyX2 k) := by decide +kernel
abbrev cX2_init : ByteArray := prog_4_method_1_code
def yX2_init : MethodName := ⟨RX2, "<init>", "(IIIILRainCover$Crop;)V"⟩
abbrev cX2_district : ByteArray := prog_4_method_2_code
def yX2_district : MethodName := ⟨RX2, "district", "()I"⟩
def RX3 : String := "RainCover$Gauge"
def TX3 : u_T := fun k => match k with
  | 0 => ("RainCover$Gauge", "x", "I", true)
  | 1 => ("RainCover$Gauge", "y", "I", true)
  | 2 => ("RainCover$Gauge", "from", "I", true)
  | _ => ("RainCover$Gauge", "till", "I", false)
def tyX3 : Nat → FieldType := fun k => match k with
  | 0 => .int
  | 1 => .int
  | 2 => .int
  | _ => .int
abbrev wsX30 : List Cond := u_ws RX3 TX3 4
theorem nmX3 : ∀ a, a < 4 → ∀ b, b < 4 → a ≠ b → (TX3 a).2.1 ≠ (TX3 b).2.1 := by decide +kernel
theorem tyX3_ok : ∀ k, k < 4 → parseFieldDescriptor (TX3 k).2.2.1 = some (tyX3 k) := by decide +kernel
abbrev cX3_init : ByteArray := prog_5_method_1_code
def yX3_init : MethodName := ⟨RX3, "<init>", "(III)V"⟩
abbrev cX3_standsIn : ByteArray := prog_5_method_2_code
def yX3_standsIn : MethodName := ⟨RX3, "standsIn", "(I)Z"⟩
def RX4 : String := "RainCover$Grain"
def TX4 : u_T := fun k => match k with
  | 0 => ("RainCover$Crop", "number", "I", true)
  | 1 => ("RainCover$Crop", "area", "I", true)
  | 2 => ("RainCover$Crop", "bodies", "[I", true)
  | _ => ("RainCover$Crop", "ran", "I", false)
def tyX4 : Nat → FieldType := fun k => match k with
  | 0 => .int
  | 1 => .int
  | 2 => .array .int
  | _ => .int
abbrev wsX40 : List Cond := u_ws RX4 TX4 4
theorem nmX4 : ∀ a, a < 4 → ∀ b, b < 4 → a ≠ b → (TX4 a).2.1 ≠ (TX4 b).2.1 := by decide +kernel
theorem tyX4_ok : ∀ k, k < 4 → parseFieldDescriptor (TX4 k).2.2.1 = some (tyX4 k) := by decide +kernel
abbrev cX4_init : ByteArray := prog_6_method_1_code
def yX4_init : MethodName := ⟨RX4, "<init>", "(II)V"⟩
abbrev cX4_kind : ByteArray := prog_6_method_2_code
def yX4_kind : MethodName := ⟨RX4, "kind", "()I"⟩
abbrev cX4_drinks : ByteArray := prog_6_method_3_code
def yX4_drinks : MethodName := ⟨RX4, "drinks", "(I)I"⟩
def RX5 : String := "RainCover$Maize"
def TX5 : u_T := fun k => match k with
  | 0 => ("RainCover$Crop", "number", "I", true)
  | 1 => ("RainCover$Crop", "area", "I", true)
  | 2 => ("RainCover$Crop", "bodies", "[I", true)
  | _ => ("RainCover$Crop", "ran", "I", false)
def tyX5 : Nat → FieldType := fun k => match k with
  | 0 => .int
  | 1 => .int
  | 2 => .array .int
  | _ => .int
abbrev wsX50 : List Cond := u_ws RX5 TX5 4
theorem nmX5 : ∀ a, a < 4 → ∀ b, b < 4 → a ≠ b → (TX5 a).2.1 ≠ (TX5 b).2.1 := by decide +kernel
theorem tyX5_ok : ∀ k, k < 4 → parseFieldDescriptor (TX5 k).2.2.1 = some (tyX5 k) := by decide +kernel
abbrev cX5_init : ByteArray := prog_7_method_1_code
def yX5_init : MethodName := ⟨RX5, "<init>", "(II)V"⟩
abbrev cX5_kind : ByteArray := prog_7_method_2_code
def yX5_kind : MethodName := ⟨RX5, "kind", "()I"⟩
abbrev cX5_wilts : ByteArray := prog_7_method_3_code
def yX5_wilts : MethodName := ⟨RX5, "wilts", "(I)I"⟩
abbrev cX5_yields : ByteArray := prog_7_method_4_code
def yX5_yields : MethodName := ⟨RX5, "yields", "(I)I"⟩
def RX6 : String := "RainCover$Sheet"
def TX6 : u_T := fun k => match k with
  | 0 => ("RainCover$Sheet", "sort", "I", false)
  | 1 => ("RainCover$Sheet", "length", "I", false)
  | _ => ("RainCover$Sheet", "items", "[I", true)
def tyX6 : Nat → FieldType := fun k => match k with
  | 0 => .int
  | 1 => .int
  | _ => .array .int
abbrev wsX60 : List Cond := u_ws RX6 TX6 3
theorem nmX6 : ∀ a, a < 3 → ∀ b, b < 3 → a ≠ b → (TX6 a).2.1 ≠ (TX6 b).2.1 := by decide +kernel
theorem tyX6_ok : ∀ k, k < 3 → parseFieldDescriptor (TX6 k).2.2.1 = some (tyX6 k) := by decide +kernel
abbrev cX6_init : ByteArray := prog_8_method_1_code
def yX6_init : MethodName := ⟨RX6, "<init>", "()V"⟩
abbrev cX6_isSort : ByteArray := prog_8_method_2_code
def yX6_isSort : MethodName := ⟨RX6, "isSort", "(I)Z"⟩
abbrev cX6_isMissing : ByteArray := prog_8_method_3_code
def yX6_isMissing : MethodName := ⟨RX6, "isMissing", "()Z"⟩
abbrev cX6_hasItems : ByteArray := prog_8_method_4_code
def yX6_hasItems : MethodName := ⟨RX6, "hasItems", "(II)Z"⟩
abbrev cX6_become : ByteArray := prog_8_method_5_code
def yX6_become : MethodName := ⟨RX6, "become", "(II)V"⟩
abbrev cX6_store : ByteArray := prog_8_method_6_code
def yX6_store : MethodName := ⟨RX6, "store", "(II)V"⟩
def RX7 : String := "RainCover$Table"
def TX7 : u_T := fun k => match k with
  | 0 => ("RainCover$Table", "most", "I", true)
  | 1 => ("RainCover$Table", "width", "I", true)
  | 2 => ("RainCover$Table", "numbers", "[I", true)
  | _ => ("RainCover$Table", "rows", "I", false)
def tyX7 : Nat → FieldType := fun k => match k with
  | 0 => .int
  | 1 => .int
  | 2 => .array .int
  | _ => .int
abbrev wsX70 : List Cond := u_ws RX7 TX7 4
theorem nmX7 : ∀ a, a < 4 → ∀ b, b < 4 → a ≠ b → (TX7 a).2.1 ≠ (TX7 b).2.1 := by decide +kernel
theorem tyX7_ok : ∀ k, k < 4 → parseFieldDescriptor (TX7 k).2.2.1 = some (tyX7 k) := by decide +kernel
abbrev cX7_init : ByteArray := prog_9_method_1_code
def yX7_init : MethodName := ⟨RX7, "<init>", "(II)V"⟩
abbrev cX7_has : ByteArray := prog_9_method_2_code
def yX7_has : MethodName := ⟨RX7, "has", "(I)Z"⟩
abbrev cX7_isFull : ByteArray := prog_9_method_3_code
def yX7_isFull : MethodName := ⟨RX7, "isFull", "()Z"⟩
abbrev cX7_hasRoomFor : ByteArray := prog_9_method_4_code
def yX7_hasRoomFor : MethodName := ⟨RX7, "hasRoomFor", "(I)Z"⟩
abbrev cX7_add : ByteArray := prog_9_method_5_code
def yX7_add : MethodName := ⟨RX7, "add", "(IIII)I"⟩
abbrev cX7_at : ByteArray := prog_9_method_6_code
def yX7_at : MethodName := ⟨RX7, "at", "(II)I"⟩
abbrev cX7_put : ByteArray := prog_9_method_7_code
def yX7_put : MethodName := ⟨RX7, "put", "(III)V"⟩
abbrev cX7_find : ByteArray := prog_9_method_8_code
def yX7_find : MethodName := ⟨RX7, "find", "(II)I"⟩
def RX8 : String := "RainCover$Tape"
def TX8 : u_T := fun k => match k with
  | 0 => ("RainCover$Tape", "bytes", "[B", true)
  | 1 => ("RainCover$Tape", "length", "I", false)
  | 2 => ("RainCover$Tape", "place", "I", false)
  | _ => ("RainCover$Tape", "failed", "Z", false)
def tyX8 : Nat → FieldType := fun k => match k with
  | 0 => .array .byte
  | 1 => .int
  | 2 => .int
  | _ => .boolean
abbrev wsX80 : List Cond := u_ws RX8 TX8 4
theorem nmX8 : ∀ a, a < 4 → ∀ b, b < 4 → a ≠ b → (TX8 a).2.1 ≠ (TX8 b).2.1 := by decide +kernel
theorem tyX8_ok : ∀ k, k < 4 → parseFieldDescriptor (TX8 k).2.2.1 = some (tyX8 k) := by decide +kernel
abbrev cX8_init : ByteArray := prog_10_method_1_code
def yX8_init : MethodName := ⟨RX8, "<init>", "()V"⟩
abbrev cX8_hasRoomFor : ByteArray := prog_10_method_2_code
def yX8_hasRoomFor : MethodName := ⟨RX8, "hasRoomFor", "(I)Z"⟩
abbrev cX8_append : ByteArray := prog_10_method_3_code
def yX8_append : MethodName := ⟨RX8, "append", "(II)V"⟩
abbrev cX8_read : ByteArray := prog_10_method_4_code
def yX8_read : MethodName := ⟨RX8, "read", "()LRainCover$Term;"⟩
abbrev cX8_readRate : ByteArray := prog_10_method_5_code
def yX8_readRate : MethodName := ⟨RX8, "readRate", "(LRainCover$Term;)V"⟩
abbrev cX8_readPay : ByteArray := prog_10_method_6_code
def yX8_readPay : MethodName := ⟨RX8, "readPay", "(LRainCover$Term;)V"⟩
abbrev cX8_readCase : ByteArray := prog_10_method_7_code
def yX8_readCase : MethodName := ⟨RX8, "readCase", "(LRainCover$Term;I)V"⟩
abbrev cX8_readSpan : ByteArray := prog_10_method_8_code
def yX8_readSpan : MethodName := ⟨RX8, "readSpan", "(LRainCover$Term;I)V"⟩
abbrev cX8_next : ByteArray := prog_10_method_9_code
def yX8_next : MethodName := ⟨RX8, "next", "()I"⟩
abbrev cX8_word : ByteArray := prog_10_method_10_code
def yX8_word : MethodName := ⟨RX8, "word", "(Ljava/lang/String;)V"⟩
abbrev cX8_number : ByteArray := prog_10_method_11_code
def yX8_number : MethodName := ⟨RX8, "number", "(I)I"⟩
def RX9 : String := "RainCover$Tellings"
def TX9 : u_T := fun k => match k with
  | 0 => ("RainCover$Tellings", "latest", "[I", true)
  | 1 => ("RainCover$Tellings", "earlier", "[I", true)
  | 2 => ("RainCover$Tellings", "values", "[I", true)
  | _ => ("RainCover$Tellings", "last", "I", false)
def tyX9 : Nat → FieldType := fun k => match k with
  | 0 => .array .int
  | 1 => .array .int
  | 2 => .array .int
  | _ => .int
abbrev wsX90 : List Cond := u_ws RX9 TX9 4
theorem nmX9 : ∀ a, a < 4 → ∀ b, b < 4 → a ≠ b → (TX9 a).2.1 ≠ (TX9 b).2.1 := by decide +kernel
theorem tyX9_ok : ∀ k, k < 4 → parseFieldDescriptor (TX9 k).2.2.1 = some (tyX9 k) := by decide +kernel
abbrev cX9_init : ByteArray := prog_11_method_1_code
def yX9_init : MethodName := ⟨RX9, "<init>", "()V"⟩
abbrev cX9_haveRoomFor : ByteArray := prog_11_method_2_code
def yX9_haveRoomFor : MethodName := ⟨RX9, "haveRoomFor", "(I)Z"⟩
abbrev cX9_tell : ByteArray := prog_11_method_3_code
def yX9_tell : MethodName := ⟨RX9, "tell", "(IIII)I"⟩
abbrev cX9_asKnown : ByteArray := prog_11_method_4_code
def yX9_asKnown : MethodName := ⟨RX9, "asKnown", "(IIII)I"⟩
def RX10 : String := "RainCover$Term"
def TX10 : u_T := fun k => match k with
  | 0 => ("RainCover$Term", "isRate", "Z", false)
  | 1 => ("RainCover$Term", "amount", "I", false)
  | 2 => ("RainCover$Term", "step", "I", false)
  | 3 => ("RainCover$Term", "bound", "I", false)
  | 4 => ("RainCover$Term", "most", "I", false)
  | 5 => ("RainCover$Term", "cases", "I", false)
  | 6 => ("RainCover$Term", "sorts", "[I", true)
  | 7 => ("RainCover$Term", "starts", "[I", true)
  | 8 => ("RainCover$Term", "ends", "[I", true)
  | 9 => ("RainCover$Term", "above", "[Z", true)
  | _ => ("RainCover$Term", "bounds", "[I", true)
def tyX10 : Nat → FieldType := fun k => match k with
  | 0 => .boolean
  | 1 => .int
  | 2 => .int
  | 3 => .int
  | 4 => .int
  | 5 => .int
  | 6 => .array .int
  | 7 => .array .int
  | 8 => .array .int
  | 9 => .array .boolean
  | _ => .array .int
abbrev wsX100 : List Cond := u_ws RX10 TX10 11
theorem nmX10 : ∀ a, a < 11 → ∀ b, b < 11 → a ≠ b → (TX10 a).2.1 ≠ (TX10 b).2.1 := by decide +kernel
theorem tyX10_ok : ∀ k, k < 11 → parseFieldDescriptor (TX10 k).2.2.1 = some (tyX10 k) := by decide +kernel
abbrev cX10_init : ByteArray := prog_12_method_1_code
def yX10_init : MethodName := ⟨RX10, "<init>", "()V"⟩
abbrev cX10_isSound : ByteArray := prog_12_method_2_code
def yX10_isSound : MethodName := ⟨RX10, "isSound", "()Z"⟩
abbrev cX10_amountFor : ByteArray := prog_12_method_3_code
def yX10_amountFor : MethodName := ⟨RX10, "amountFor", "([I[III)I"⟩
abbrev cX10_rateFor : ByteArray := prog_12_method_4_code
def yX10_rateFor : MethodName := ⟨RX10, "rateFor", "(I)I"⟩
abbrev cX10_measure : ByteArray := prog_12_method_5_code
def yX10_measure : MethodName := ⟨RX10, "measure", "(I[I[III)I"⟩
abbrev cX10_sumFrom : ByteArray := prog_12_method_6_code
def yX10_sumFrom : MethodName := ⟨RX10, "sumFrom", "([III)I"⟩
abbrev cX10_longestDry : ByteArray := prog_12_method_7_code
def yX10_longestDry : MethodName := ⟨RX10, "longestDry", "([IIII)I"⟩
abbrev cX10_greatest : ByteArray := prog_12_method_8_code
def yX10_greatest : MethodName := ⟨RX10, "greatest", "([III)I"⟩
def RX11 : String := "RainCover"
def TX11 : u_T := fun k => match k with
  | 0 => ("RainCover", "gauges", "Ljava/util/ArrayList;", true)
  | 1 => ("RainCover", "terms", "Ljava/util/ArrayList;", true)
  | 2 => ("RainCover", "farms", "Ljava/util/ArrayList;", true)
  | 3 => ("RainCover", "sites", "Ljava/util/ArrayList;", true)
  | 4 => ("RainCover", "tellings", "LRainCover$Tellings;", true)
  | 5 => ("RainCover", "tape", "LRainCover$Tape;", true)
  | 6 => ("RainCover", "laws", "[I", true)
  | 7 => ("RainCover", "plants", "[I", true)
  | 8 => ("RainCover", "covers", "LRainCover$Table;", true)
  | 9 => ("RainCover", "looks", "LRainCover$Table;", true)
  | 10 => ("RainCover", "payments", "LRainCover$Table;", true)
  | 11 => ("RainCover", "complaints", "LRainCover$Table;", true)
  | 12 => ("RainCover", "sheets", "[LRainCover$Sheet;", true)
  | 13 => ("RainCover", "money", "I", false)
  | 14 => ("RainCover", "z", "I", false)
  | 15 => ("RainCover", "actor", "LRainCover$Crop;", false)
  | 16 => ("RainCover", "wet", "[I", true)
  | 17 => ("RainCover", "lush", "[I", true)
  | 18 => ("RainCover", "perSeason", "[I", true)
  | _ => ("RainCover", "perFarm", "[I", true)
def tyX11 : Nat → FieldType := fun k => match k with
  | 0 => .object "java/util/ArrayList"
  | 1 => .object "java/util/ArrayList"
  | 2 => .object "java/util/ArrayList"
  | 3 => .object "java/util/ArrayList"
  | 4 => .object "RainCover$Tellings"
  | 5 => .object "RainCover$Tape"
  | 6 => .array .int
  | 7 => .array .int
  | 8 => .object "RainCover$Table"
  | 9 => .object "RainCover$Table"
  | 10 => .object "RainCover$Table"
  | 11 => .object "RainCover$Table"
  | 12 => .array (.object "RainCover$Sheet")
  | 13 => .int
  | 14 => .int
  | 15 => .object "RainCover$Crop"
  | 16 => .array .int
  | 17 => .array .int
  | 18 => .array .int
  | _ => .array .int
abbrev wsX110 : List Cond := u_ws RX11 TX11 20
theorem nmX11 : ∀ a, a < 20 → ∀ b, b < 20 → a ≠ b → (TX11 a).2.1 ≠ (TX11 b).2.1 := by decide +kernel
theorem tyX11_ok : ∀ k, k < 20 → parseFieldDescriptor (TX11 k).2.2.1 = some (tyX11 k) := by decide +kernel
abbrev cX11_init : ByteArray := prog_1_method_1_code
def yX11_init : MethodName := ⟨RX11, "<init>", "()V"⟩
abbrev cX11_gauge : ByteArray := prog_1_method_2_code
def yX11_gauge : MethodName := ⟨RX11, "gauge", "(III)I"⟩
abbrev cX11_down : ByteArray := prog_1_method_3_code
def yX11_down : MethodName := ⟨RX11, "down", "(II)I"⟩
abbrev cX11_law : ByteArray := prog_1_method_4_code
def yX11_law : MethodName := ⟨RX11, "law", "(II)I"⟩
abbrev cX11_rain : ByteArray := prog_1_method_5_code
def yX11_rain : MethodName := ⟨RX11, "rain", "(IIII)I"⟩
abbrev cX11_green : ByteArray := prog_1_method_6_code
def yX11_green : MethodName := ⟨RX11, "green", "(IIII)I"⟩
abbrev cX11_seen : ByteArray := prog_1_method_7_code
def yX11_seen : MethodName := ⟨RX11, "seen", "(IIII)I"⟩
abbrev cX11_lay : ByteArray := prog_1_method_8_code
def yX11_lay : MethodName := ⟨RX11, "lay", "(IIIII)I"⟩
abbrev cX11_told : ByteArray := prog_1_method_9_code
def yX11_told : MethodName := ⟨RX11, "told", "(IIII)I"⟩
abbrev cX11_filled : ByteArray := prog_1_method_10_code
def yX11_filled : MethodName := ⟨RX11, "filled", "(IIII)I"⟩
abbrev cX11_span : ByteArray := prog_1_method_11_code
def yX11_span : MethodName := ⟨RX11, "span", "(IIII)I"⟩
abbrev cX11_odd : ByteArray := prog_1_method_12_code
def yX11_odd : MethodName := ⟨RX11, "odd", "(II)I"⟩
abbrev cX11_isOddWeek : ByteArray := prog_1_method_13_code
def yX11_isOddWeek : MethodName := ⟨RX11, "isOddWeek", "(III)Z"⟩
abbrev cX11_extreme : ByteArray := prog_1_method_14_code
def yX11_extreme : MethodName := ⟨RX11, "extreme", "(IIIZ)I"⟩
abbrev cX11_fill : ByteArray := prog_1_method_15_code
def yX11_fill : MethodName := ⟨RX11, "fill", "(IIII)I"⟩
abbrev cX11_nearestTold : ByteArray := prog_1_method_16_code
def yX11_nearestTold : MethodName := ⟨RX11, "nearestTold", "(IIII)I"⟩
abbrev cX11_usualRain : ByteArray := prog_1_method_17_code
def yX11_usualRain : MethodName := ⟨RX11, "usualRain", "(III)I"⟩
abbrev cX11_feed : ByteArray := prog_1_method_18_code
def yX11_feed : MethodName := ⟨RX11, "feed", "(II)I"⟩
abbrev cX11_term : ByteArray := prog_1_method_19_code
def yX11_term : MethodName := ⟨RX11, "term", "()I"⟩
abbrev cX11_pay : ByteArray := prog_1_method_20_code
def yX11_pay : MethodName := ⟨RX11, "pay", "(IIIII)I"⟩
abbrev cX11_payOn : ByteArray := prog_1_method_21_code
def yX11_payOn : MethodName := ⟨RX11, "payOn", "(IIIIII)I"⟩
abbrev cX11_farm : ByteArray := prog_1_method_22_code
def yX11_farm : MethodName := ⟨RX11, "farm", "(IIII)I"⟩
abbrev cX11_newCrop : ByteArray := prog_1_method_23_code
def yX11_newCrop : MethodName := ⟨RX11, "newCrop", "(III)LRainCover$Crop;"⟩
abbrev cX11_plant : ByteArray := prog_1_method_24_code
def yX11_plant : MethodName := ⟨RX11, "plant", "(II)I"⟩
abbrev cX11_enroll : ByteArray := prog_1_method_25_code
def yX11_enroll : MethodName := ⟨RX11, "enroll", "(III)I"⟩
abbrev cX11_lapse : ByteArray := prog_1_method_26_code
def yX11_lapse : MethodName := ⟨RX11, "lapse", "(II)I"⟩
abbrev cX11_of : ByteArray := prog_1_method_27_code
def yX11_of : MethodName := ⟨RX11, "of", "(III)I"⟩
abbrev cX11_due : ByteArray := prog_1_method_28_code
def yX11_due : MethodName := ⟨RX11, "due", "(III)I"⟩
abbrev cX11_line : ByteArray := prog_1_method_29_code
def yX11_line : MethodName := ⟨RX11, "line", "(III)I"⟩
abbrev cX11_gatherCoveredPays : ByteArray := prog_1_method_30_code
def yX11_gatherCoveredPays : MethodName := ⟨RX11, "gatherCoveredPays", "(I)V"⟩
abbrev cX11_isOverLine : ByteArray := prog_1_method_31_code
def yX11_isOverLine : MethodName := ⟨RX11, "isOverLine", "(IIII)Z"⟩
abbrev cX11_coverOf : ByteArray := prog_1_method_32_code
def yX11_coverOf : MethodName := ⟨RX11, "coverOf", "(II)I"⟩
abbrev cX11_termOf : ByteArray := prog_1_method_33_code
def yX11_termOf : MethodName := ⟨RX11, "termOf", "(II)I"⟩
abbrev cX11_gaugeOf : ByteArray := prog_1_method_34_code
def yX11_gaugeOf : MethodName := ⟨RX11, "gaugeOf", "(LRainCover$Farm;I)I"⟩
abbrev cX11_distanceToGauge : ByteArray := prog_1_method_35_code
def yX11_distanceToGauge : MethodName := ⟨RX11, "distanceToGauge", "(LRainCover$Farm;I)I"⟩
abbrev cX11_payOf : ByteArray := prog_1_method_36_code
def yX11_payOf : MethodName := ⟨RX11, "payOf", "(LRainCover$Farm;III)I"⟩
abbrev cX11_dueOf : ByteArray := prog_1_method_37_code
def yX11_dueOf : MethodName := ⟨RX11, "dueOf", "(LRainCover$Farm;II)I"⟩
abbrev cX11_look : ByteArray := prog_1_method_38_code
def yX11_look : MethodName := ⟨RX11, "look", "(IIII)I"⟩
abbrev cX11_basis : ByteArray := prog_1_method_39_code
def yX11_basis : MethodName := ⟨RX11, "basis", "(III)J"⟩
abbrev cX11_bandOf : ByteArray := prog_1_method_40_code
def yX11_bandOf : MethodName := ⟨RX11, "bandOf", "(I)I"⟩
abbrev cX11_missOf : ByteArray := prog_1_method_41_code
def yX11_missOf : MethodName := ⟨RX11, "missOf", "(II)I"⟩
abbrev cX11_site : ByteArray := prog_1_method_42_code
def yX11_site : MethodName := ⟨RX11, "site", "(II)I"⟩
abbrev cX11_best : ByteArray := prog_1_method_43_code
def yX11_best : MethodName := ⟨RX11, "best", "(II)I"⟩
abbrev cX11_gatherGaugeDistances : ByteArray := prog_1_method_44_code
def yX11_gatherGaugeDistances : MethodName := ⟨RX11, "gatherGaugeDistances", "()V"⟩
abbrev cX11_farFor : ByteArray := prog_1_method_45_code
def yX11_farFor : MethodName := ⟨RX11, "farFor", "(I)I"⟩
abbrev cX11_hasSite : ByteArray := prog_1_method_46_code
def yX11_hasSite : MethodName := ⟨RX11, "hasSite", "(II)Z"⟩
abbrev cX11_memberOf : ByteArray := prog_1_method_47_code
def yX11_memberOf : MethodName := ⟨RX11, "memberOf", "(II)I"⟩
abbrev cX11_mean : ByteArray := prog_1_method_48_code
def yX11_mean : MethodName := ⟨RX11, "mean", "(IIIII)J"⟩
abbrev cX11_price : ByteArray := prog_1_method_49_code
def yX11_price : MethodName := ⟨RX11, "price", "(IIIII)I"⟩
abbrev cX11_trend : ByteArray := prog_1_method_50_code
def yX11_trend : MethodName := ⟨RX11, "trend", "(IIIII)J"⟩
abbrev cX11_beside : ByteArray := prog_1_method_51_code
def yX11_beside : MethodName := ⟨RX11, "beside", "(IIIIII)I"⟩
abbrev cX11_foretold : ByteArray := prog_1_method_52_code
def yX11_foretold : MethodName := ⟨RX11, "foretold", "(IIIIIII)I"⟩
abbrev cX11_gatherSpliced : ByteArray := prog_1_method_53_code
def yX11_gatherSpliced : MethodName := ⟨RX11, "gatherSpliced", "(IIII)V"⟩
abbrev cX11_income : ByteArray := prog_1_method_54_code
def yX11_income : MethodName := ⟨RX11, "income", "(I)I"⟩
abbrev cX11_total : ByteArray := prog_1_method_55_code
def yX11_total : MethodName := ⟨RX11, "total", "(II)I"⟩
abbrev cX11_layer : ByteArray := prog_1_method_56_code
def yX11_layer : MethodName := ⟨RX11, "layer", "(IIII)I"⟩
abbrev cX11_lots : ByteArray := prog_1_method_57_code
def yX11_lots : MethodName := ⟨RX11, "lots", "(I)I"⟩
abbrev cX11_lasts : ByteArray := prog_1_method_58_code
def yX11_lasts : MethodName := ⟨RX11, "lasts", "(IIII)I"⟩
abbrev cX11_rowLasts : ByteArray := prog_1_method_59_code
def yX11_rowLasts : MethodName := ⟨RX11, "rowLasts", "(JIII)Z"⟩
abbrev cX11_gatherTotals : ByteArray := prog_1_method_60_code
def yX11_gatherTotals : MethodName := ⟨RX11, "gatherTotals", "(I)I"⟩
abbrev cX11_isYear : ByteArray := prog_1_method_61_code
def yX11_isYear : MethodName := ⟨RX11, "isYear", "(II)Z"⟩
abbrev cX11_incomeIn : ByteArray := prog_1_method_62_code
def yX11_incomeIn : MethodName := ⟨RX11, "incomeIn", "(I)I"⟩
abbrev cX11_totalOf : ByteArray := prog_1_method_63_code
def yX11_totalOf : MethodName := ⟨RX11, "totalOf", "(II)I"⟩
abbrev cX11_priceOf : ByteArray := prog_1_method_64_code
def yX11_priceOf : MethodName := ⟨RX11, "priceOf", "(IIII)I"⟩
abbrev cX11_gatherPays : ByteArray := prog_1_method_65_code
def yX11_gatherPays : MethodName := ⟨RX11, "gatherPays", "(IIII)I"⟩
abbrev cX11_sumOfPays : ByteArray := prog_1_method_66_code
def yX11_sumOfPays : MethodName := ⟨RX11, "sumOfPays", "()J"⟩
abbrev cX11_isKnown : ByteArray := prog_1_method_67_code
def yX11_isKnown : MethodName := ⟨RX11, "isKnown", "(II)Z"⟩
abbrev cX11_settle : ByteArray := prog_1_method_68_code
def yX11_settle : MethodName := ⟨RX11, "settle", "(I)I"⟩
abbrev cX11_settleFarm : ByteArray := prog_1_method_69_code
def yX11_settleFarm : MethodName := ⟨RX11, "settleFarm", "(LRainCover$Farm;II)V"⟩
abbrev cX11_payment : ByteArray := prog_1_method_70_code
def yX11_payment : MethodName := ⟨RX11, "payment", "(II)I"⟩
abbrev cX11_fund : ByteArray := prog_1_method_71_code
def yX11_fund : MethodName := ⟨RX11, "fund", "(I)I"⟩
abbrev cX11_send : ByteArray := prog_1_method_72_code
def yX11_send : MethodName := ⟨RX11, "send", "(I)I"⟩
abbrev cX11_arrive : ByteArray := prog_1_method_73_code
def yX11_arrive : MethodName := ⟨RX11, "arrive", "(II)I"⟩
abbrev cX11_complain : ByteArray := prog_1_method_74_code
def yX11_complain : MethodName := ⟨RX11, "complain", "(II)I"⟩
abbrev cX11_judge : ByteArray := prog_1_method_75_code
def yX11_judge : MethodName := ⟨RX11, "judge", "(I)I"⟩
abbrev cX11_award : ByteArray := prog_1_method_76_code
def yX11_award : MethodName := ⟨RX11, "award", "(II)V"⟩
abbrev cX11_complaint : ByteArray := prog_1_method_77_code
def yX11_complaint : MethodName := ⟨RX11, "complaint", "(II)I"⟩
abbrev cX11_kinOf : ByteArray := prog_1_method_78_code
def yX11_kinOf : MethodName := ⟨RX11, "kinOf", "(I)I"⟩
abbrev cX11_isKin : ByteArray := prog_1_method_79_code
def yX11_isKin : MethodName := ⟨RX11, "isKin", "(II)Z"⟩
abbrev cX11_hurtOf : ByteArray := prog_1_method_80_code
def yX11_hurtOf : MethodName := ⟨RX11, "hurtOf", "(II)I"⟩
abbrev cX11_debt : ByteArray := prog_1_method_81_code
def yX11_debt : MethodName := ⟨RX11, "debt", "(I)I"⟩
abbrev cX11_group : ByteArray := prog_1_method_82_code
def yX11_group : MethodName := ⟨RX11, "group", "(II)I"⟩
abbrev cX11_vote : ByteArray := prog_1_method_83_code
def yX11_vote : MethodName := ⟨RX11, "vote", "(II)I"⟩
abbrev cX11_share : ByteArray := prog_1_method_84_code
def yX11_share : MethodName := ⟨RX11, "share", "(II)I"⟩
abbrev cX11_dueOfGroup : ByteArray := prog_1_method_85_code
def yX11_dueOfGroup : MethodName := ⟨RX11, "dueOfGroup", "(II)J"⟩
abbrev cX11_ruleOf : ByteArray := prog_1_method_86_code
def yX11_ruleOf : MethodName := ⟨RX11, "ruleOf", "(I)I"⟩
abbrev cX11_votesFor : ByteArray := prog_1_method_87_code
def yX11_votesFor : MethodName := ⟨RX11, "votesFor", "(II)I"⟩
abbrev cX11_weightOfGroup : ByteArray := prog_1_method_88_code
def yX11_weightOfGroup : MethodName := ⟨RX11, "weightOfGroup", "(III)J"⟩
abbrev cX11_weightOf : ByteArray := prog_1_method_89_code
def yX11_weightOf : MethodName := ⟨RX11, "weightOf", "(LRainCover$Farm;II)J"⟩
abbrev cX11_act : ByteArray := prog_1_method_90_code
def yX11_act : MethodName := ⟨RX11, "act", "(III)I"⟩
abbrev cX11_trace : ByteArray := prog_1_method_91_code
def yX11_trace : MethodName := ⟨RX11, "trace", "(I)I"⟩
abbrev cX11_taken : ByteArray := prog_1_method_92_code
def yX11_taken : MethodName := ⟨RX11, "taken", "(II)I"⟩
abbrev cX11_count : ByteArray := prog_1_method_93_code
def yX11_count : MethodName := ⟨RX11, "count", "(I)I"⟩
abbrev cX11_sheet : ByteArray := prog_1_method_94_code
def yX11_sheet : MethodName := ⟨RX11, "sheet", "(III)I"⟩
abbrev cX11_cell : ByteArray := prog_1_method_95_code
def yX11_cell : MethodName := ⟨RX11, "cell", "(III)I"⟩
abbrev cX11_copy : ByteArray := prog_1_method_96_code
def yX11_copy : MethodName := ⟨RX11, "copy", "(IIIII)I"⟩
abbrev cX11_within : ByteArray := prog_1_method_97_code
def yX11_within : MethodName := ⟨RX11, "within", "(III)Z"⟩
abbrev cX11_isPlace : ByteArray := prog_1_method_98_code
def yX11_isPlace : MethodName := ⟨RX11, "isPlace", "(II)Z"⟩
abbrev cX11_isSeason : ByteArray := prog_1_method_99_code
def yX11_isSeason : MethodName := ⟨RX11, "isSeason", "(I)Z"⟩
abbrev cX11_isGauge : ByteArray := prog_1_method_100_code
def yX11_isGauge : MethodName := ⟨RX11, "isGauge", "(I)Z"⟩
abbrev cX11_isTerm : ByteArray := prog_1_method_101_code
def yX11_isTerm : MethodName := ⟨RX11, "isTerm", "(I)Z"⟩
abbrev cX11_isFarm : ByteArray := prog_1_method_102_code
def yX11_isFarm : MethodName := ⟨RX11, "isFarm", "(I)Z"⟩
abbrev cX11_isSheet : ByteArray := prog_1_method_103_code
def yX11_isSheet : MethodName := ⟨RX11, "isSheet", "(I)Z"⟩
abbrev cX11_isGaugeWeek : ByteArray := prog_1_method_104_code
def yX11_isGaugeWeek : MethodName := ⟨RX11, "isGaugeWeek", "(III)Z"⟩
abbrev cX11_isDistrictWeek : ByteArray := prog_1_method_105_code
def yX11_isDistrictWeek : MethodName := ⟨RX11, "isDistrictWeek", "(III)Z"⟩
abbrev cX11_isOffer : ByteArray := prog_1_method_106_code
def yX11_isOffer : MethodName := ⟨RX11, "isOffer", "(IIII)Z"⟩
abbrev cX11_now : ByteArray := prog_1_method_107_code
def yX11_now : MethodName := ⟨RX11, "now", "()I"⟩
abbrev cX11_distance : ByteArray := prog_1_method_108_code
def yX11_distance : MethodName := ⟨RX11, "distance", "(IIII)I"⟩
abbrev cX11_roundedUp : ByteArray := prog_1_method_109_code
def yX11_roundedUp : MethodName := ⟨RX11, "roundedUp", "(JJ)I"⟩
abbrev cX11_partOf : ByteArray := prog_1_method_110_code
def yX11_partOf : MethodName := ⟨RX11, "partOf", "(JJI)J"⟩
abbrev cX11_commonDivisor : ByteArray := prog_1_method_111_code
def yX11_commonDivisor : MethodName := ⟨RX11, "commonDivisor", "(JJ)J"⟩
def RX12 : String := "RainCoverModel"
def TX12 : u_T := fun k => match k with
  | 0 => ("RainCoverModel", "gauges", "I", false)
  | 1 => ("RainCoverModel", "gx", "[I", true)
  | 2 => ("RainCoverModel", "gy", "[I", true)
  | 3 => ("RainCoverModel", "from", "[I", true)
  | 4 => ("RainCoverModel", "until", "[I", true)
  | 5 => ("RainCoverModel", "laws", "[I", true)
  | 6 => ("RainCoverModel", "most", "[I", true)
  | 7 => ("RainCoverModel", "tellings", "I", false)
  | 8 => ("RainCoverModel", "isGreen", "[Z", true)
  | 9 => ("RainCoverModel", "tellOf", "[I", true)
  | 10 => ("RainCoverModel", "tellValue", "[I", true)
  | 11 => ("RainCoverModel", "rain", "[I", true)
  | 12 => ("RainCoverModel", "green", "[I", true)
  | 13 => ("RainCoverModel", "terms", "I", false)
  | 14 => ("RainCoverModel", "isRate", "[Z", true)
  | 15 => ("RainCoverModel", "termN", "[I", true)
  | 16 => ("RainCoverModel", "termK", "[I", true)
  | 17 => ("RainCoverModel", "termM", "[I", true)
  | 18 => ("RainCoverModel", "termP", "[I", true)
  | 19 => ("RainCoverModel", "cases", "[I", true)
  | 20 => ("RainCoverModel", "caseKind", "[I", true)
  | 21 => ("RainCoverModel", "caseA", "[I", true)
  | 22 => ("RainCoverModel", "caseB", "[I", true)
  | 23 => ("RainCoverModel", "caseN", "[I", true)
  | 24 => ("RainCoverModel", "isLess", "[Z", true)
  | 25 => ("RainCoverModel", "dryness", "[I", true)
  | 26 => ("RainCoverModel", "farms", "I", false)
  | 27 => ("RainCoverModel", "fx", "[I", true)
  | 28 => ("RainCoverModel", "fy", "[I", true)
  | 29 => ("RainCoverModel", "crop", "[I", true)
  | 30 => ("RainCoverModel", "area", "[I", true)
  | 31 => ("RainCoverModel", "debt", "[I", true)
  | 32 => ("RainCoverModel", "groupOf", "[I", true)
  | 33 => ("RainCoverModel", "rule", "[I", true)
  | 34 => ("RainCoverModel", "settled", "[I", true)
  | 35 => ("RainCoverModel", "plant", "[I", true)
  | 36 => ("RainCoverModel", "covers", "I", false)
  | 37 => ("RainCoverModel", "coverFarm", "[I", true)
  | 38 => ("RainCoverModel", "coverTerm", "[I", true)
  | 39 => ("RainCoverModel", "coverFrom", "[I", true)
  | 40 => ("RainCoverModel", "coverTill", "[I", true)
  | 41 => ("RainCoverModel", "looks", "I", false)
  | 42 => ("RainCoverModel", "lookFarm", "[I", true)
  | 43 => ("RainCoverModel", "lookSeason", "[I", true)
  | 44 => ("RainCoverModel", "loss", "[I", true)
  | 45 => ("RainCoverModel", "doubt", "[I", true)
  | 46 => ("RainCoverModel", "sites", "I", false)
  | 47 => ("RainCoverModel", "sx", "[I", true)
  | 48 => ("RainCoverModel", "sy", "[I", true)
  | 49 => ("RainCoverModel", "payments", "I", false)
  | 50 => ("RainCoverModel", "payFarm", "[I", true)
  | 51 => ("RainCoverModel", "paySeason", "[I", true)
  | 52 => ("RainCoverModel", "payMuch", "[I", true)
  | 53 => ("RainCoverModel", "payState", "[I", true)
  | 54 => ("RainCoverModel", "fund", "I", false)
  | 55 => ("RainCoverModel", "complaints", "I", false)
  | 56 => ("RainCoverModel", "plainOf", "[I", true)
  | 57 => ("RainCoverModel", "plainSeason", "[I", true)
  | 58 => ("RainCoverModel", "plainTerm", "[I", true)
  | 59 => ("RainCoverModel", "plainHow", "[I", true)
  | 60 => ("RainCoverModel", "plainPayment", "[I", true)
  | 61 => ("RainCoverModel", "z", "I", false)
  | 62 => ("RainCoverModel", "tape", "[I", true)
  | 63 => ("RainCoverModel", "taped", "I", false)
  | 64 => ("RainCoverModel", "ran", "I", false)
  | 65 => ("RainCoverModel", "trace", "[I", true)
  | 66 => ("RainCoverModel", "sort", "[I", true)
  | 67 => ("RainCoverModel", "size", "[I", true)
  | 68 => ("RainCoverModel", "items", "[I", true)
  | 69 => ("RainCoverModel", "spot", "I", false)
  | 70 => ("RainCoverModel", "isWrong", "Z", false)
  | 71 => ("RainCoverModel", "words", "[I", true)
  | 72 => ("RainCoverModel", "altSeason", "I", false)
  | 73 => ("RainCoverModel", "altFrom", "I", false)
  | 74 => ("RainCoverModel", "year", "[I", true)
  | 75 => ("RainCoverModel", "yearTotal", "[I", true)
  | _ => ("RainCoverModel", "moved", "[I", true)
def tyX12 : Nat → FieldType := fun k => match k with
  | 0 => .int
  | 1 => .array .int
  | 2 => .array .int
  | 3 => .array .int
  | 4 => .array .int
  | 5 => .array .int
  | 6 => .array .int
  | 7 => .int
  | 8 => .array .boolean
  | 9 => .array .int
  | 10 => .array .int
  | 11 => .array .int
  | 12 => .array .int
  | 13 => .int
  | 14 => .array .boolean
  | 15 => .array .int
  | 16 => .array .int
  | 17 => .array .int
  | 18 => .array .int
  | 19 => .array .int
  | 20 => .array .int
  | 21 => .array .int
  | 22 => .array .int
  | 23 => .array .int
  | 24 => .array .boolean
  | 25 => .array .int
  | 26 => .int
  | 27 => .array .int
  | 28 => .array .int
  | 29 => .array .int
  | 30 => .array .int
  | 31 => .array .int
  | 32 => .array .int
  | 33 => .array .int
  | 34 => .array .int
  | 35 => .array .int
  | 36 => .int
  | 37 => .array .int
  | 38 => .array .int
  | 39 => .array .int
  | 40 => .array .int
  | 41 => .int
  | 42 => .array .int
  | 43 => .array .int
  | 44 => .array .int
  | 45 => .array .int
  | 46 => .int
  | 47 => .array .int
  | 48 => .array .int
  | 49 => .int
  | 50 => .array .int
  | 51 => .array .int
  | 52 => .array .int
  | 53 => .array .int
  | 54 => .int
  | 55 => .int
  | 56 => .array .int
  | 57 => .array .int
  | 58 => .array .int
  | 59 => .array .int
  | 60 => .array .int
  | 61 => .int
  | 62 => .array .int
  | 63 => .int
  | 64 => .int
  | 65 => .array .int
  | 66 => .array .int
  | 67 => .array .int
  | 68 => .array .int
  | 69 => .int
  | 70 => .boolean
  | 71 => .array .int
  | 72 => .int
  | 73 => .int
  | 74 => .array .int
  | 75 => .array .int
  | _ => .array .int
abbrev wsX120 : List Cond := u_ws RX12 TX12 77
theorem nmX12 : ∀ a, a < 77 → ∀ b, b < 77 → a ≠ b → (TX12 a).2.1 ≠ (TX12 b).2.1 := by decide +kernel
theorem tyX12_ok : ∀ k, k < 77 → parseFieldDescriptor (TX12 k).2.2.1 = some (tyX12 k) := by decide +kernel
abbrev cX12_init : ByteArray := prog_14_method_1_code
def yX12_init : MethodName := ⟨RX12, "<init>", "()V"⟩
abbrev cX12_in : ByteArray := prog_14_method_2_code
def yX12_in : MethodName := ⟨RX12, "in", "(III)Z"⟩
abbrev cX12_isPlace : ByteArray := prog_14_method_3_code
def yX12_isPlace : MethodName := ⟨RX12, "isPlace", "(II)Z"⟩
abbrev cX12_isSeason : ByteArray := prog_14_method_4_code
def yX12_isSeason : MethodName := ⟨RX12, "isSeason", "(I)Z"⟩
abbrev cX12_isWeek : ByteArray := prog_14_method_5_code
def yX12_isWeek : MethodName := ⟨RX12, "isWeek", "(I)Z"⟩
abbrev cX12_isGauge : ByteArray := prog_14_method_6_code
def yX12_isGauge : MethodName := ⟨RX12, "isGauge", "(I)Z"⟩
abbrev cX12_isTerm : ByteArray := prog_14_method_7_code
def yX12_isTerm : MethodName := ⟨RX12, "isTerm", "(I)Z"⟩
abbrev cX12_isFarm : ByteArray := prog_14_method_8_code
def yX12_isFarm : MethodName := ⟨RX12, "isFarm", "(I)Z"⟩
abbrev cX12_apart : ByteArray := prog_14_method_9_code
def yX12_apart : MethodName := ⟨RX12, "apart", "(II)I"⟩
abbrev cX12_gauge : ByteArray := prog_14_method_10_code
def yX12_gauge : MethodName := ⟨RX12, "gauge", "(III)I"⟩
abbrev cX12_down : ByteArray := prog_14_method_11_code
def yX12_down : MethodName := ⟨RX12, "down", "(II)I"⟩
abbrev cX12_stands : ByteArray := prog_14_method_12_code
def yX12_stands : MethodName := ⟨RX12, "stands", "(II)Z"⟩
abbrev cX12_law : ByteArray := prog_14_method_13_code
def yX12_law : MethodName := ⟨RX12, "law", "(II)I"⟩
abbrev cX12_clears : ByteArray := prog_14_method_14_code
def yX12_clears : MethodName := ⟨RX12, "clears", "(I)V"⟩
abbrev cX12_spotOf : ByteArray := prog_14_method_15_code
def yX12_spotOf : MethodName := ⟨RX12, "spotOf", "(III)I"⟩
abbrev cX12_tells : ByteArray := prog_14_method_16_code
def yX12_tells : MethodName := ⟨RX12, "tells", "(ZII)V"⟩
abbrev cX12_rain : ByteArray := prog_14_method_17_code
def yX12_rain : MethodName := ⟨RX12, "rain", "(IIII)I"⟩
abbrev cX12_green : ByteArray := prog_14_method_18_code
def yX12_green : MethodName := ⟨RX12, "green", "(IIII)I"⟩
abbrev cX12_known : ByteArray := prog_14_method_19_code
def yX12_known : MethodName := ⟨RX12, "known", "(I)I"⟩
abbrev cX12_seen : ByteArray := prog_14_method_20_code
def yX12_seen : MethodName := ⟨RX12, "seen", "(IIII)I"⟩
abbrev cX12_lay : ByteArray := prog_14_method_21_code
def yX12_lay : MethodName := ⟨RX12, "lay", "(IIIII)I"⟩
abbrev cX12_rainOf : ByteArray := prog_14_method_22_code
def yX12_rainOf : MethodName := ⟨RX12, "rainOf", "(IIII)I"⟩
abbrev cX12_isTold : ByteArray := prog_14_method_23_code
def yX12_isTold : MethodName := ⟨RX12, "isTold", "(IIII)Z"⟩
abbrev cX12_told : ByteArray := prog_14_method_24_code
def yX12_told : MethodName := ⟨RX12, "told", "(IIII)I"⟩
abbrev cX12_between : ByteArray := prog_14_method_25_code
def yX12_between : MethodName := ⟨RX12, "between", "(II)I"⟩
abbrev cX12_areNear : ByteArray := prog_14_method_26_code
def yX12_areNear : MethodName := ⟨RX12, "areNear", "(II)Z"⟩
abbrev cX12_filledOf : ByteArray := prog_14_method_27_code
def yX12_filledOf : MethodName := ⟨RX12, "filledOf", "(IIII)I"⟩
abbrev cX12_filled : ByteArray := prog_14_method_28_code
def yX12_filled : MethodName := ⟨RX12, "filled", "(IIII)I"⟩
abbrev cX12_edge : ByteArray := prog_14_method_29_code
def yX12_edge : MethodName := ⟨RX12, "edge", "(IIII)I"⟩
abbrev cX12_span : ByteArray := prog_14_method_30_code
def yX12_span : MethodName := ⟨RX12, "span", "(IIII)I"⟩
abbrev cX12_odd : ByteArray := prog_14_method_31_code
def yX12_odd : MethodName := ⟨RX12, "odd", "(II)I"⟩
abbrev cX12_feed : ByteArray := prog_14_method_32_code
def yX12_feed : MethodName := ⟨RX12, "feed", "(II)I"⟩
abbrev cX12_byteAt : ByteArray := prog_14_method_33_code
def yX12_byteAt : MethodName := ⟨RX12, "byteAt", "(I)I"⟩
abbrev cX12_startOf : ByteArray := prog_14_method_34_code
def yX12_startOf : MethodName := ⟨RX12, "startOf", "(I)I"⟩
abbrev cX12_must : ByteArray := prog_14_method_35_code
def yX12_must : MethodName := ⟨RX12, "must", "(I)V"⟩
abbrev cX12_number : ByteArray := prog_14_method_36_code
def yX12_number : MethodName := ⟨RX12, "number", "(I)I"⟩
abbrev cX12_readsCase : ByteArray := prog_14_method_37_code
def yX12_readsCase : MethodName := ⟨RX12, "readsCase", "(I)V"⟩
abbrev cX12_readsPay : ByteArray := prog_14_method_38_code
def yX12_readsPay : MethodName := ⟨RX12, "readsPay", "(I)V"⟩
abbrev cX12_readsRate : ByteArray := prog_14_method_39_code
def yX12_readsRate : MethodName := ⟨RX12, "readsRate", "(I)V"⟩
abbrev cX12_isGood : ByteArray := prog_14_method_40_code
def yX12_isGood : MethodName := ⟨RX12, "isGood", "(I)Z"⟩
abbrev cX12_term : ByteArray := prog_14_method_41_code
def yX12_term : MethodName := ⟨RX12, "term", "()I"⟩
abbrev cX12_seasonOf : ByteArray := prog_14_method_42_code
def yX12_seasonOf : MethodName := ⟨RX12, "seasonOf", "(II)I"⟩
abbrev cX12_sumOf : ByteArray := prog_14_method_43_code
def yX12_sumOf : MethodName := ⟨RX12, "sumOf", "(IIIII)I"⟩
abbrev cX12_dryOf : ByteArray := prog_14_method_44_code
def yX12_dryOf : MethodName := ⟨RX12, "dryOf", "(IIIIII)I"⟩
abbrev cX12_greenOf : ByteArray := prog_14_method_45_code
def yX12_greenOf : MethodName := ⟨RX12, "greenOf", "(IIIII)I"⟩
abbrev cX12_isSo : ByteArray := prog_14_method_46_code
def yX12_isSo : MethodName := ⟨RX12, "isSo", "(IIIIII)Z"⟩
abbrev cX12_payOf : ByteArray := prog_14_method_47_code
def yX12_payOf : MethodName := ⟨RX12, "payOf", "(IIIIII)I"⟩
abbrev cX12_pay : ByteArray := prog_14_method_48_code
def yX12_pay : MethodName := ⟨RX12, "pay", "(IIIII)I"⟩
abbrev cX12_farm : ByteArray := prog_14_method_49_code
def yX12_farm : MethodName := ⟨RX12, "farm", "(IIII)I"⟩
abbrev cX12_plant : ByteArray := prog_14_method_50_code
def yX12_plant : MethodName := ⟨RX12, "plant", "(II)I"⟩
abbrev cX12_farFrom : ByteArray := prog_14_method_51_code
def yX12_farFrom : MethodName := ⟨RX12, "farFrom", "(III)I"⟩
abbrev cX12_gaugeOf : ByteArray := prog_14_method_52_code
def yX12_gaugeOf : MethodName := ⟨RX12, "gaugeOf", "(II)I"⟩
abbrev cX12_coverOf : ByteArray := prog_14_method_53_code
def yX12_coverOf : MethodName := ⟨RX12, "coverOf", "(II)I"⟩
abbrev cX12_termOf : ByteArray := prog_14_method_54_code
def yX12_termOf : MethodName := ⟨RX12, "termOf", "(II)I"⟩
abbrev cX12_enroll : ByteArray := prog_14_method_55_code
def yX12_enroll : MethodName := ⟨RX12, "enroll", "(III)I"⟩
abbrev cX12_lapse : ByteArray := prog_14_method_56_code
def yX12_lapse : MethodName := ⟨RX12, "lapse", "(II)I"⟩
abbrev cX12_plantOf : ByteArray := prog_14_method_57_code
def yX12_plantOf : MethodName := ⟨RX12, "plantOf", "(I)I"⟩
abbrev cX12_farmPay : ByteArray := prog_14_method_58_code
def yX12_farmPay : MethodName := ⟨RX12, "farmPay", "(IIII)I"⟩
abbrev cX12_of : ByteArray := prog_14_method_59_code
def yX12_of : MethodName := ⟨RX12, "of", "(III)I"⟩
abbrev cX12_dueOf : ByteArray := prog_14_method_60_code
def yX12_dueOf : MethodName := ⟨RX12, "dueOf", "(III)I"⟩
abbrev cX12_due : ByteArray := prog_14_method_61_code
def yX12_due : MethodName := ⟨RX12, "due", "(III)I"⟩
abbrev cX12_line : ByteArray := prog_14_method_62_code
def yX12_line : MethodName := ⟨RX12, "line", "(III)I"⟩
abbrev cX12_lookOf : ByteArray := prog_14_method_63_code
def yX12_lookOf : MethodName := ⟨RX12, "lookOf", "(II)I"⟩
abbrev cX12_look : ByteArray := prog_14_method_64_code
def yX12_look : MethodName := ⟨RX12, "look", "(IIII)I"⟩
abbrev cX12_common : ByteArray := prog_14_method_65_code
def yX12_common : MethodName := ⟨RX12, "common", "(JJ)J"⟩
abbrev cX12_part : ByteArray := prog_14_method_66_code
def yX12_part : MethodName := ⟨RX12, "part", "(JJI)J"⟩
abbrev cX12_basis : ByteArray := prog_14_method_67_code
def yX12_basis : MethodName := ⟨RX12, "basis", "(III)J"⟩
abbrev cX12_site : ByteArray := prog_14_method_68_code
def yX12_site : MethodName := ⟨RX12, "site", "(II)I"⟩
abbrev cX12_far : ByteArray := prog_14_method_69_code
def yX12_far : MethodName := ⟨RX12, "far", "(I)I"⟩
abbrev cX12_bits : ByteArray := prog_14_method_70_code
def yX12_bits : MethodName := ⟨RX12, "bits", "(I)I"⟩
abbrev cX12_isAhead : ByteArray := prog_14_method_71_code
def yX12_isAhead : MethodName := ⟨RX12, "isAhead", "(II)Z"⟩
abbrev cX12_best : ByteArray := prog_14_method_72_code
def yX12_best : MethodName := ⟨RX12, "best", "(II)I"⟩
abbrev cX12_isKnown : ByteArray := prog_14_method_73_code
def yX12_isKnown : MethodName := ⟨RX12, "isKnown", "(II)Z"⟩
abbrev cX12_isAsked : ByteArray := prog_14_method_74_code
def yX12_isAsked : MethodName := ⟨RX12, "isAsked", "(IIII)Z"⟩
abbrev cX12_knowns : ByteArray := prog_14_method_75_code
def yX12_knowns : MethodName := ⟨RX12, "knowns", "(I)I"⟩
abbrev cX12_paid : ByteArray := prog_14_method_76_code
def yX12_paid : MethodName := ⟨RX12, "paid", "(IIII)I"⟩
abbrev cX12_mean : ByteArray := prog_14_method_77_code
def yX12_mean : MethodName := ⟨RX12, "mean", "(IIIII)J"⟩
abbrev cX12_priceOf : ByteArray := prog_14_method_78_code
def yX12_priceOf : MethodName := ⟨RX12, "priceOf", "(IIII)I"⟩
abbrev cX12_price : ByteArray := prog_14_method_79_code
def yX12_price : MethodName := ⟨RX12, "price", "(IIIII)I"⟩
abbrev cX12_trend : ByteArray := prog_14_method_80_code
def yX12_trend : MethodName := ⟨RX12, "trend", "(IIIII)J"⟩
abbrev cX12_beside : ByteArray := prog_14_method_81_code
def yX12_beside : MethodName := ⟨RX12, "beside", "(IIIIII)I"⟩
abbrev cX12_foretold : ByteArray := prog_14_method_82_code
def yX12_foretold : MethodName := ⟨RX12, "foretold", "(IIIIIII)I"⟩
abbrev cX12_incomeOf : ByteArray := prog_14_method_83_code
def yX12_incomeOf : MethodName := ⟨RX12, "incomeOf", "(I)I"⟩
abbrev cX12_income : ByteArray := prog_14_method_84_code
def yX12_income : MethodName := ⟨RX12, "income", "(I)I"⟩
abbrev cX12_totalOf : ByteArray := prog_14_method_85_code
def yX12_totalOf : MethodName := ⟨RX12, "totalOf", "(II)I"⟩
abbrev cX12_total : ByteArray := prog_14_method_86_code
def yX12_total : MethodName := ⟨RX12, "total", "(II)I"⟩
abbrev cX12_layer : ByteArray := prog_14_method_87_code
def yX12_layer : MethodName := ⟨RX12, "layer", "(IIII)I"⟩
abbrev cX12_lots : ByteArray := prog_14_method_88_code
def yX12_lots : MethodName := ⟨RX12, "lots", "(I)I"⟩
abbrev cX12_years : ByteArray := prog_14_method_89_code
def yX12_years : MethodName := ⟨RX12, "years", "(I)I"⟩
abbrev cX12_lasts : ByteArray := prog_14_method_90_code
def yX12_lasts : MethodName := ⟨RX12, "lasts", "(IIII)I"⟩
abbrev cX12_owed : ByteArray := prog_14_method_91_code
def yX12_owed : MethodName := ⟨RX12, "owed", "(II)I"⟩
abbrev cX12_pays : ByteArray := prog_14_method_92_code
def yX12_pays : MethodName := ⟨RX12, "pays", "(III)V"⟩
abbrev cX12_settle : ByteArray := prog_14_method_93_code
def yX12_settle : MethodName := ⟨RX12, "settle", "(I)I"⟩
abbrev cX12_isPayment : ByteArray := prog_14_method_94_code
def yX12_isPayment : MethodName := ⟨RX12, "isPayment", "(I)Z"⟩
abbrev cX12_payment : ByteArray := prog_14_method_95_code
def yX12_payment : MethodName := ⟨RX12, "payment", "(II)I"⟩
abbrev cX12_fund : ByteArray := prog_14_method_96_code
def yX12_fund : MethodName := ⟨RX12, "fund", "(I)I"⟩
abbrev cX12_send : ByteArray := prog_14_method_97_code
def yX12_send : MethodName := ⟨RX12, "send", "(I)I"⟩
abbrev cX12_arrive : ByteArray := prog_14_method_98_code
def yX12_arrive : MethodName := ⟨RX12, "arrive", "(II)I"⟩
abbrev cX12_complain : ByteArray := prog_14_method_99_code
def yX12_complain : MethodName := ⟨RX12, "complain", "(II)I"⟩
abbrev cX12_isKin : ByteArray := prog_14_method_100_code
def yX12_isKin : MethodName := ⟨RX12, "isKin", "(II)Z"⟩
abbrev cX12_hurt : ByteArray := prog_14_method_101_code
def yX12_hurt : MethodName := ⟨RX12, "hurt", "(II)I"⟩
abbrev cX12_judge : ByteArray := prog_14_method_102_code
def yX12_judge : MethodName := ⟨RX12, "judge", "(I)I"⟩
abbrev cX12_complaint : ByteArray := prog_14_method_103_code
def yX12_complaint : MethodName := ⟨RX12, "complaint", "(II)I"⟩
abbrev cX12_debt : ByteArray := prog_14_method_104_code
def yX12_debt : MethodName := ⟨RX12, "debt", "(I)I"⟩
abbrev cX12_group : ByteArray := prog_14_method_105_code
def yX12_group : MethodName := ⟨RX12, "group", "(II)I"⟩
abbrev cX12_vote : ByteArray := prog_14_method_106_code
def yX12_vote : MethodName := ⟨RX12, "vote", "(II)I"⟩
abbrev cX12_votes : ByteArray := prog_14_method_107_code
def yX12_votes : MethodName := ⟨RX12, "votes", "(II)I"⟩
abbrev cX12_weight : ByteArray := prog_14_method_108_code
def yX12_weight : MethodName := ⟨RX12, "weight", "(III)J"⟩
abbrev cX12_share : ByteArray := prog_14_method_109_code
def yX12_share : MethodName := ⟨RX12, "share", "(II)I"⟩
abbrev cX12_body : ByteArray := prog_14_method_110_code
def yX12_body : MethodName := ⟨RX12, "body", "(I)V"⟩
abbrev cX12_drinksCrop : ByteArray := prog_14_method_111_code
def yX12_drinksCrop : MethodName := ⟨RX12, "drinksCrop", "(II)I"⟩
abbrev cX12_drinks : ByteArray := prog_14_method_112_code
def yX12_drinks : MethodName := ⟨RX12, "drinks", "(II)I"⟩
abbrev cX12_wiltsCrop : ByteArray := prog_14_method_113_code
def yX12_wiltsCrop : MethodName := ⟨RX12, "wiltsCrop", "(II)I"⟩
abbrev cX12_wilts : ByteArray := prog_14_method_114_code
def yX12_wilts : MethodName := ⟨RX12, "wilts", "(II)I"⟩
abbrev cX12_yieldsCrop : ByteArray := prog_14_method_115_code
def yX12_yieldsCrop : MethodName := ⟨RX12, "yieldsCrop", "(II)I"⟩
abbrev cX12_yields : ByteArray := prog_14_method_116_code
def yX12_yields : MethodName := ⟨RX12, "yields", "(II)I"⟩
abbrev cX12_act : ByteArray := prog_14_method_117_code
def yX12_act : MethodName := ⟨RX12, "act", "(III)I"⟩
abbrev cX12_trace : ByteArray := prog_14_method_118_code
def yX12_trace : MethodName := ⟨RX12, "trace", "(I)I"⟩
abbrev cX12_taken : ByteArray := prog_14_method_119_code
def yX12_taken : MethodName := ⟨RX12, "taken", "(II)I"⟩
abbrev cX12_count : ByteArray := prog_14_method_120_code
def yX12_count : MethodName := ⟨RX12, "count", "(I)I"⟩
abbrev cX12_isSheet : ByteArray := prog_14_method_121_code
def yX12_isSheet : MethodName := ⟨RX12, "isSheet", "(I)Z"⟩
abbrev cX12_sheet : ByteArray := prog_14_method_122_code
def yX12_sheet : MethodName := ⟨RX12, "sheet", "(III)I"⟩
abbrev cX12_cell : ByteArray := prog_14_method_123_code
def yX12_cell : MethodName := ⟨RX12, "cell", "(III)I"⟩
abbrev cX12_copy : ByteArray := prog_14_method_124_code
def yX12_copy : MethodName := ⟨RX12, "copy", "(IIIII)I"⟩
def RJx145de : String := "java/io/Serializable"
def TJx145de : u_T := fun k => match k with
  | _ => ("", "", "", false)
def tyJx145de : Nat → FieldType := fun k => match k with
  | _ => .int
abbrev wsJx145de0 : List Cond := u_ws RJx145de TJx145de 0
theorem nmJx145de : ∀ a, a < 0 → ∀ b, b < 0 → a ≠ b → (TJx145de a).2.1 ≠ (TJx145de b).2.1 := by decide +kernel
theorem tyJx145de_ok : ∀ k, k < 0 → parseFieldDescriptor (TJx145de k).2.2.1 = some (tyJx145de k) := by decide +kernel
def RJx8e188 : String := "java/lang/Cloneable"
def TJx8e188 : u_T := fun k => match k with
  | _ => ("", "", "", false)
def tyJx8e188 : Nat → FieldType := fun k => match k with
  | _ => .int
abbrev wsJx8e1880 : List Cond := u_ws RJx8e188 TJx8e188 0
theorem nmJx8e188 : ∀ a, a < 0 → ∀ b, b < 0 → a ≠ b → (TJx8e188 a).2.1 ≠ (TJx8e188 b).2.1 := by decide +kernel
theorem tyJx8e188_ok : ∀ k, k < 0 → parseFieldDescriptor (TJx8e188 k).2.2.1 = some (tyJx8e188 k) := by decide +kernel
def RJ6 : String := "java/lang/Integer"
def TJ6 : u_T := fun k => match k with
  | _ => ("", "", "", false)
def tyJ6 : Nat → FieldType := fun k => match k with
  | _ => .int
abbrev wsJ60 : List Cond := u_ws RJ6 TJ6 0
theorem nmJ6 : ∀ a, a < 0 → ∀ b, b < 0 → a ≠ b → (TJ6 a).2.1 ≠ (TJ6 b).2.1 := by decide +kernel
theorem tyJ6_ok : ∀ k, k < 0 → parseFieldDescriptor (TJ6 k).2.2.1 = some (tyJ6 k) := by decide +kernel
abbrev cJ6_bitCount_0f7a4 : ByteArray := prog_17_method_49_code
def yJ6_bitCount_0f7a4 : MethodName := ⟨RJ6, "bitCount", "(I)I"⟩
def RJxab1ab : String := "java/lang/Iterable"
def TJxab1ab : u_T := fun k => match k with
  | _ => ("", "", "", false)
def tyJxab1ab : Nat → FieldType := fun k => match k with
  | _ => .int
abbrev wsJxab1ab0 : List Cond := u_ws RJxab1ab TJxab1ab 0
theorem nmJxab1ab : ∀ a, a < 0 → ∀ b, b < 0 → a ≠ b → (TJxab1ab a).2.1 ≠ (TJxab1ab b).2.1 := by decide +kernel
theorem tyJxab1ab_ok : ∀ k, k < 0 → parseFieldDescriptor (TJxab1ab k).2.2.1 = some (tyJxab1ab k) := by decide +kernel
def RJ9 : String := "java/lang/Math"
def TJ9 : u_T := fun k => match k with
  | _ => ("", "", "", false)
def tyJ9 : Nat → FieldType := fun k => match k with
  | _ => .int
abbrev wsJ90 : List Cond := u_ws RJ9 TJ9 0
theorem nmJ9 : ∀ a, a < 0 → ∀ b, b < 0 → a ≠ b → (TJ9 a).2.1 ≠ (TJ9 b).2.1 := by decide +kernel
theorem tyJ9_ok : ∀ k, k < 0 → parseFieldDescriptor (TJ9 k).2.2.1 = some (tyJ9 k) := by decide +kernel
abbrev cJ9_abs_0f7a4 : ByteArray := prog_19_method_59_code
def yJ9_abs_0f7a4 : MethodName := ⟨RJ9, "abs", "(I)I"⟩
abbrev cJ9_abs_067f4 : ByteArray := prog_19_method_61_code
def yJ9_abs_067f4 : MethodName := ⟨RJ9, "abs", "(J)J"⟩
abbrev cJ9_max_7cf53 : ByteArray := prog_19_method_65_code
def yJ9_max_7cf53 : MethodName := ⟨RJ9, "max", "(II)I"⟩
abbrev cJ9_min_7cf53 : ByteArray := prog_19_method_69_code
def yJ9_min_7cf53 : MethodName := ⟨RJ9, "min", "(II)I"⟩
def RJ0 : String := "java/lang/String"
def TJ0 : u_T := fun k => match k with
  | _ => ("", "", "", false)
def tyJ0 : Nat → FieldType := fun k => match k with
  | _ => .int
abbrev wsJ00 : List Cond := u_ws RJ0 TJ0 0
theorem nmJ0 : ∀ a, a < 0 → ∀ b, b < 0 → a ≠ b → (TJ0 a).2.1 ≠ (TJ0 b).2.1 := by decide +kernel
theorem tyJ0_ok : ∀ k, k < 0 → parseFieldDescriptor (TJ0 k).2.2.1 = some (tyJ0 k) := by decide +kernel
abbrev cJ0_length_8abf5 : ByteArray := prog_20_method_54_code
def yJ0_length_8abf5 : MethodName := ⟨RJ0, "length", "()I"⟩
abbrev cJ0_charAt_5068e : ByteArray := prog_20_method_56_code
def yJ0_charAt_5068e : MethodName := ⟨RJ0, "charAt", "(I)C"⟩
abbrev cJ0_coder_7d493 : ByteArray := prog_20_method_152_code
def yJ0_coder_7d493 : MethodName := ⟨RJ0, "coder", "()B"⟩
abbrev cJ0_isLatin1_aae02 : ByteArray := prog_20_method_154_code
def yJ0_isLatin1_aae02 : MethodName := ⟨RJ0, "isLatin1", "()Z"⟩
abbrev cJ0_checkIndex_df160 : ByteArray := prog_20_method_155_code
def yJ0_checkIndex_df160 : MethodName := ⟨RJ0, "checkIndex", "(II)V"⟩
def RJ1 : String := "java/lang/StringLatin1"
def TJ1 : u_T := fun k => match k with
  | _ => ("", "", "", false)
def tyJ1 : Nat → FieldType := fun k => match k with
  | _ => .int
abbrev wsJ10 : List Cond := u_ws RJ1 TJ1 0
theorem nmJ1 : ∀ a, a < 0 → ∀ b, b < 0 → a ≠ b → (TJ1 a).2.1 ≠ (TJ1 b).2.1 := by decide +kernel
theorem tyJ1_ok : ∀ k, k < 0 → parseFieldDescriptor (TJ1 k).2.2.1 = some (tyJ1 k) := by decide +kernel
abbrev cJ1_charAt_3b067 : ByteArray := prog_21_method_2_code
def yJ1_charAt_3b067 : MethodName := ⟨RJ1, "charAt", "([BI)C"⟩
def RJ2 : String := "java/lang/StringUTF16"
def TJ2 : u_T := fun k => match k with
  | _ => ("", "", "", false)
def tyJ2 : Nat → FieldType := fun k => match k with
  | _ => .int
abbrev wsJ20 : List Cond := u_ws RJ2 TJ2 0
theorem nmJ2 : ∀ a, a < 0 → ∀ b, b < 0 → a ≠ b → (TJ2 a).2.1 ≠ (TJ2 b).2.1 := by decide +kernel
theorem tyJ2_ok : ∀ k, k < 0 → parseFieldDescriptor (TJ2 k).2.2.1 = some (tyJ2 k) := by decide +kernel
abbrev cJ2_getChar_3b067 : ByteArray := prog_22_method_5_code
def yJ2_getChar_3b067 : MethodName := ⟨RJ2, "getChar", "([BI)C"⟩
abbrev cJ2_length_9d52b : ByteArray := prog_22_method_6_code
def yJ2_length_9d52b : MethodName := ⟨RJ2, "length", "([B)I"⟩
abbrev cJ2_charAt_3b067 : ByteArray := prog_22_method_83_code
def yJ2_charAt_3b067 : MethodName := ⟨RJ2, "charAt", "([BI)C"⟩
abbrev cJ2_checkIndex_2214a : ByteArray := prog_22_method_91_code
def yJ2_checkIndex_2214a : MethodName := ⟨RJ2, "checkIndex", "(I[B)V"⟩
def RJ10 : String := "java/lang/System"
def TJ10 : u_T := fun k => match k with
  | _ => ("", "", "", false)
def tyJ10 : Nat → FieldType := fun k => match k with
  | _ => .int
abbrev wsJ100 : List Cond := u_ws RJ10 TJ10 0
theorem nmJ10 : ∀ a, a < 0 → ∀ b, b < 0 → a ≠ b → (TJ10 a).2.1 ≠ (TJ10 b).2.1 := by decide +kernel
theorem tyJ10_ok : ∀ k, k < 0 → parseFieldDescriptor (TJ10 k).2.2.1 = some (tyJ10 k) := by decide +kernel
def RJxa1e45 : String := "java/util/AbstractCollection"
def TJxa1e45 : u_T := fun k => match k with
  | _ => ("", "", "", false)
def tyJxa1e45 : Nat → FieldType := fun k => match k with
  | _ => .int
abbrev wsJxa1e450 : List Cond := u_ws RJxa1e45 TJxa1e45 0
theorem nmJxa1e45 : ∀ a, a < 0 → ∀ b, b < 0 → a ≠ b → (TJxa1e45 a).2.1 ≠ (TJxa1e45 b).2.1 := by decide +kernel
theorem tyJxa1e45_ok : ∀ k, k < 0 → parseFieldDescriptor (TJxa1e45 k).2.2.1 = some (tyJxa1e45 k) := by decide +kernel
abbrev cJxa1e45_init_da8c8 : ByteArray := prog_24_method_1_code
def yJxa1e45_init_da8c8 : MethodName := ⟨RJxa1e45, "<init>", "()V"⟩
def RJxc12de : String := "java/util/AbstractList"
def TJxc12de : u_T := fun k => match k with
  | _ => ("", "", "", false)
def tyJxc12de : Nat → FieldType := fun k => match k with
  | _ => .int
abbrev wsJxc12de0 : List Cond := u_ws RJxc12de TJxc12de 0
theorem nmJxc12de : ∀ a, a < 0 → ∀ b, b < 0 → a ≠ b → (TJxc12de a).2.1 ≠ (TJxc12de b).2.1 := by decide +kernel
theorem tyJxc12de_ok : ∀ k, k < 0 → parseFieldDescriptor (TJxc12de k).2.2.1 = some (tyJxc12de k) := by decide +kernel
abbrev cJxc12de_init_da8c8 : ByteArray := prog_25_method_1_code
def yJxc12de_init_da8c8 : MethodName := ⟨RJxc12de, "<init>", "()V"⟩
def RJx4a65c : String := "java/util/ArrayList"
def TJx4a65c : u_T := fun k => match k with
  | 0 => ("java/util/AbstractList", "modCount", "I", false)
  | 1 => ("java/util/ArrayList", "elementData", "[Ljava/lang/Object;", false)
  | _ => ("java/util/ArrayList", "size", "I", false)
def tyJx4a65c : Nat → FieldType := fun k => match k with
  | 0 => .int
  | 1 => .array (.object "java/lang/Object")
  | _ => .int
abbrev wsJx4a65c0 : List Cond := u_ws RJx4a65c TJx4a65c 3
theorem nmJx4a65c : ∀ a, a < 3 → ∀ b, b < 3 → a ≠ b → (TJx4a65c a).2.1 ≠ (TJx4a65c b).2.1 := by decide +kernel
theorem tyJx4a65c_ok : ∀ k, k < 3 → parseFieldDescriptor (TJx4a65c k).2.2.1 = some (tyJx4a65c k) := by decide +kernel
abbrev cJx4a65c_init_da8c8 : ByteArray := prog_26_method_2_code
def yJx4a65c_init_da8c8 : MethodName := ⟨RJx4a65c, "<init>", "()V"⟩
abbrev cJx4a65c_grow_92f84 : ByteArray := prog_26_method_6_code
def yJx4a65c_grow_92f84 : MethodName := ⟨RJx4a65c, "grow", "(I)[Ljava/lang/Object;"⟩
abbrev cJx4a65c_grow_d5877 : ByteArray := prog_26_method_7_code
def yJx4a65c_grow_d5877 : MethodName := ⟨RJx4a65c, "grow", "()[Ljava/lang/Object;"⟩
abbrev cJx4a65c_size_8abf5 : ByteArray := prog_26_method_8_code
def yJx4a65c_size_8abf5 : MethodName := ⟨RJx4a65c, "size", "()I"⟩
abbrev cJx4a65c_elementData_915e3 : ByteArray := prog_26_method_18_code
def yJx4a65c_elementData_915e3 : MethodName := ⟨RJx4a65c, "elementData", "(I)Ljava/lang/Object;"⟩
abbrev cJx4a65c_get_915e3 : ByteArray := prog_26_method_20_code
def yJx4a65c_get_915e3 : MethodName := ⟨RJx4a65c, "get", "(I)Ljava/lang/Object;"⟩
abbrev cJx4a65c_add_72be8 : ByteArray := prog_26_method_24_code
def yJx4a65c_add_72be8 : MethodName := ⟨RJx4a65c, "add", "(Ljava/lang/Object;[Ljava/lang/Object;I)V"⟩
abbrev cJx4a65c_add_9ea2d : ByteArray := prog_26_method_25_code
def yJx4a65c_add_9ea2d : MethodName := ⟨RJx4a65c, "add", "(Ljava/lang/Object;)Z"⟩
def RJ7 : String := "java/util/Arrays"
def TJ7 : u_T := fun k => match k with
  | _ => ("", "", "", false)
def tyJ7 : Nat → FieldType := fun k => match k with
  | _ => .int
abbrev wsJ70 : List Cond := u_ws RJ7 TJ7 0
theorem nmJ7 : ∀ a, a < 0 → ∀ b, b < 0 → a ≠ b → (TJ7 a).2.1 ≠ (TJ7 b).2.1 := by decide +kernel
theorem tyJ7_ok : ∀ k, k < 0 → parseFieldDescriptor (TJ7 k).2.2.1 = some (tyJ7 k) := by decide +kernel
abbrev cJ7_fill_53178 : ByteArray := prog_27_method_103_code
def yJ7_fill_53178 : MethodName := ⟨RJ7, "fill", "([II)V"⟩
abbrev cJ7_copyOf_1904c : ByteArray := prog_27_method_119_code
def yJ7_copyOf_1904c : MethodName := ⟨RJ7, "copyOf", "([Ljava/lang/Object;I)[Ljava/lang/Object;"⟩
abbrev cJ7_copyOf_6403c : ByteArray := prog_27_method_120_code
def yJ7_copyOf_6403c : MethodName := ⟨RJ7, "copyOf", "([Ljava/lang/Object;ILjava/lang/Class;)[Ljava/lang/Object;"⟩
def RJx5ef63 : String := "java/util/Collection"
def TJx5ef63 : u_T := fun k => match k with
  | _ => ("", "", "", false)
def tyJx5ef63 : Nat → FieldType := fun k => match k with
  | _ => .int
abbrev wsJx5ef630 : List Cond := u_ws RJx5ef63 TJx5ef63 0
theorem nmJx5ef63 : ∀ a, a < 0 → ∀ b, b < 0 → a ≠ b → (TJx5ef63 a).2.1 ≠ (TJx5ef63 b).2.1 := by decide +kernel
theorem tyJx5ef63_ok : ∀ k, k < 0 → parseFieldDescriptor (TJx5ef63 k).2.2.1 = some (tyJx5ef63 k) := by decide +kernel
def RJxbd725 : String := "java/util/List"
def TJxbd725 : u_T := fun k => match k with
  | _ => ("", "", "", false)
def tyJxbd725 : Nat → FieldType := fun k => match k with
  | _ => .int
abbrev wsJxbd7250 : List Cond := u_ws RJxbd725 TJxbd725 0
theorem nmJxbd725 : ∀ a, a < 0 → ∀ b, b < 0 → a ≠ b → (TJxbd725 a).2.1 ≠ (TJxbd725 b).2.1 := by decide +kernel
theorem tyJxbd725_ok : ∀ k, k < 0 → parseFieldDescriptor (TJxbd725 k).2.2.1 = some (tyJxbd725 k) := by decide +kernel
def RJ15 : String := "java/util/Objects"
def TJ15 : u_T := fun k => match k with
  | _ => ("", "", "", false)
def tyJ15 : Nat → FieldType := fun k => match k with
  | _ => .int
abbrev wsJ150 : List Cond := u_ws RJ15 TJ15 0
theorem nmJ15 : ∀ a, a < 0 → ∀ b, b < 0 → a ≠ b → (TJ15 a).2.1 ≠ (TJ15 b).2.1 := by decide +kernel
theorem tyJ15_ok : ∀ k, k < 0 → parseFieldDescriptor (TJ15 k).2.2.1 = some (tyJ15 k) := by decide +kernel
abbrev cJ15_checkIndex_7cf53 : ByteArray := prog_30_method_17_code
def yJ15_checkIndex_7cf53 : MethodName := ⟨RJ15, "checkIndex", "(II)I"⟩
def RJxf0a74 : String := "java/util/RandomAccess"
def TJxf0a74 : u_T := fun k => match k with
  | _ => ("", "", "", false)
def tyJxf0a74 : Nat → FieldType := fun k => match k with
  | _ => .int
abbrev wsJxf0a740 : List Cond := u_ws RJxf0a74 TJxf0a74 0
theorem nmJxf0a74 : ∀ a, a < 0 → ∀ b, b < 0 → a ≠ b → (TJxf0a74 a).2.1 ≠ (TJxf0a74 b).2.1 := by decide +kernel
theorem tyJxf0a74_ok : ∀ k, k < 0 → parseFieldDescriptor (TJxf0a74 k).2.2.1 = some (tyJxf0a74 k) := by decide +kernel
def RJxa66e6 : String := "java/util/SequencedCollection"
def TJxa66e6 : u_T := fun k => match k with
  | _ => ("", "", "", false)
def tyJxa66e6 : Nat → FieldType := fun k => match k with
  | _ => .int
abbrev wsJxa66e60 : List Cond := u_ws RJxa66e6 TJxa66e6 0
theorem nmJxa66e6 : ∀ a, a < 0 → ∀ b, b < 0 → a ≠ b → (TJxa66e6 a).2.1 ≠ (TJxa66e6 b).2.1 := by decide +kernel
theorem tyJxa66e6_ok : ∀ k, k < 0 → parseFieldDescriptor (TJxa66e6 k).2.2.1 = some (tyJxa66e6 k) := by decide +kernel
def RJ8 : String := "jdk/internal/util/ArraysSupport"
def TJ8 : u_T := fun k => match k with
  | _ => ("", "", "", false)
def tyJ8 : Nat → FieldType := fun k => match k with
  | _ => .int
abbrev wsJ80 : List Cond := u_ws RJ8 TJ8 0
theorem nmJ8 : ∀ a, a < 0 → ∀ b, b < 0 → a ≠ b → (TJ8 a).2.1 ≠ (TJ8 b).2.1 := by decide +kernel
theorem tyJ8_ok : ∀ k, k < 0 → parseFieldDescriptor (TJ8 k).2.2.1 = some (tyJ8 k) := by decide +kernel
abbrev cJ8_newLength_cabcc : ByteArray := prog_33_method_27_code
def yJ8_newLength_cabcc : MethodName := ⟨RJ8, "newLength", "(III)I"⟩
abbrev cJ8_hugeLength_7cf53 : ByteArray := prog_33_method_28_code
def yJ8_hugeLength_7cf53 : MethodName := ⟨RJ8, "hugeLength", "(II)I"⟩
def RJ3 : String := "jdk/internal/util/Preconditions"
def TJ3 : u_T := fun k => match k with
  | _ => ("", "", "", false)
def tyJ3 : Nat → FieldType := fun k => match k with
  | _ => .int
abbrev wsJ30 : List Cond := u_ws RJ3 TJ3 0
theorem nmJ3 : ∀ a, a < 0 → ∀ b, b < 0 → a ≠ b → (TJ3 a).2.1 ≠ (TJ3 b).2.1 := by decide +kernel
theorem tyJ3_ok : ∀ k, k < 0 → parseFieldDescriptor (TJ3 k).2.2.1 = some (tyJ3 k) := by decide +kernel
abbrev cJ3_checkIndex_8e157 : ByteArray := prog_34_method_11_code
def yJ3_checkIndex_8e157 : MethodName := ⟨RJ3, "checkIndex", "(IILjava/util/function/BiFunction;)I"⟩
def RL : String := "RainCoverLaw"
abbrev cL_law : ByteArray := code
def yL_law : MethodName := ⟨RL, "law", "([I)Z"⟩
abbrev vwCl : List vw_C := [(RJx4a65c, TJx4a65c, 3), (RX0, TX0, 4), (RX1, TX1, 4), (RX2, TX2, 9), (RX3, TX3, 4), (RX4, TX4, 4), (RX5, TX5, 4), (RX6, TX6, 3), (RX7, TX7, 4), (RX8, TX8, 4), (RX9, TX9, 4), (RX10, TX10, 11), (RX11, TX11, 20), (RX12, TX12, 77)]
