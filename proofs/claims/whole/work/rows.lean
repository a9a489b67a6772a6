section
-- ===== PART A: goes FIRST, ahead of the names: the tables' words, and 'selects' of the private methods out of them =====
/-- a private method of a class that the tables say can be made, by its rows of tables_1 -/
def lw_okq (q : MethodName × Nat) : Prop := (q.1.cls ≠ "java/lang/invoke/MethodHandle" ∧ q.1.cls ≠ "java/lang/invoke/VarHandle") ∧ Cond.instantiable q.1.cls q.2 ∈ tables_1 ∧ Cond.privateMethod q.1 ∈ tables_1 ∧ Cond.instanceMethod q.1 ∈ tables_1
theorem lw_p0 : lw_okq (⟨"DescribeText$Tokens", "cutOne", "([BII)I"⟩, 4) := ⟨⟨by decide +kernel, by decide +kernel⟩, List.mem_of_getElem? (i := 49) (by decide +kernel), List.mem_of_getElem? (i := 236) (by decide +kernel), List.mem_of_getElem? (i := 237) (by decide +kernel)⟩
theorem lw_p1 : lw_okq (⟨"DescribeText$Tokens", "cutName", "([BII)I"⟩, 4) := ⟨⟨by decide +kernel, by decide +kernel⟩, List.mem_of_getElem? (i := 49) (by decide +kernel), List.mem_of_getElem? (i := 243) (by decide +kernel), List.mem_of_getElem? (i := 244) (by decide +kernel)⟩
theorem lw_p2 : lw_okq (⟨"DescribeText$Tokens", "stop", "(II)I"⟩, 4) := ⟨⟨by decide +kernel, by decide +kernel⟩, List.mem_of_getElem? (i := 49) (by decide +kernel), List.mem_of_getElem? (i := 250) (by decide +kernel), List.mem_of_getElem? (i := 251) (by decide +kernel)⟩
theorem lw_p3 : lw_okq (⟨"DescribeText$Tokens", "add", "(LDescribeText$Token;IJ)V"⟩, 4) := ⟨⟨by decide +kernel, by decide +kernel⟩, List.mem_of_getElem? (i := 49) (by decide +kernel), List.mem_of_getElem? (i := 256) (by decide +kernel), List.mem_of_getElem? (i := 257) (by decide +kernel)⟩
theorem lw_p4 : lw_okq (⟨"DescribeText$Token", "stands", "([BII)Z"⟩, 6) := ⟨⟨by decide +kernel, by decide +kernel⟩, List.mem_of_getElem? (i := 268) (by decide +kernel), List.mem_of_getElem? (i := 266) (by decide +kernel), List.mem_of_getElem? (i := 267) (by decide +kernel)⟩
theorem lw_p5 : lw_okq (⟨"DescribeText$Tokens", "cutNumber", "([BII)I"⟩, 4) := ⟨⟨by decide +kernel, by decide +kernel⟩, List.mem_of_getElem? (i := 49) (by decide +kernel), List.mem_of_getElem? (i := 321) (by decide +kernel), List.mem_of_getElem? (i := 322) (by decide +kernel)⟩
theorem lw_p6 : lw_okq (⟨"DescribeText$Reader", "sees", "(LDescribeText$Token;)Z"⟩, 5) := ⟨⟨by decide +kernel, by decide +kernel⟩, List.mem_of_getElem? (i := 43) (by decide +kernel), List.mem_of_getElem? (i := 331) (by decide +kernel), List.mem_of_getElem? (i := 332) (by decide +kernel)⟩
theorem lw_p7 : lw_okq (⟨"DescribeText$Reader", "takeCoding", "()V"⟩, 5) := ⟨⟨by decide +kernel, by decide +kernel⟩, List.mem_of_getElem? (i := 43) (by decide +kernel), List.mem_of_getElem? (i := 347) (by decide +kernel), List.mem_of_getElem? (i := 348) (by decide +kernel)⟩
theorem lw_p8 : lw_okq (⟨"DescribeText$Reader", "begin", "(II)V"⟩, 5) := ⟨⟨by decide +kernel, by decide +kernel⟩, List.mem_of_getElem? (i := 43) (by decide +kernel), List.mem_of_getElem? (i := 355) (by decide +kernel), List.mem_of_getElem? (i := 356) (by decide +kernel)⟩
theorem lw_p9 : lw_okq (⟨"DescribeText$Reader", "fail", "()V"⟩, 5) := ⟨⟨by decide +kernel, by decide +kernel⟩, List.mem_of_getElem? (i := 43) (by decide +kernel), List.mem_of_getElem? (i := 359) (by decide +kernel), List.mem_of_getElem? (i := 360) (by decide +kernel)⟩
theorem lw_p10 : lw_okq (⟨"DescribeText$Reader", "start", "()I"⟩, 5) := ⟨⟨by decide +kernel, by decide +kernel⟩, List.mem_of_getElem? (i := 43) (by decide +kernel), List.mem_of_getElem? (i := 369) (by decide +kernel), List.mem_of_getElem? (i := 370) (by decide +kernel)⟩
theorem lw_p11 : lw_okq (⟨"DescribeText$Reader", "takeName", "()J"⟩, 5) := ⟨⟨by decide +kernel, by decide +kernel⟩, List.mem_of_getElem? (i := 43) (by decide +kernel), List.mem_of_getElem? (i := 373) (by decide +kernel), List.mem_of_getElem? (i := 374) (by decide +kernel)⟩
theorem lw_p12 : lw_okq (⟨"DescribeText$Reader", "take", "(LDescribeText$Token;)V"⟩, 5) := ⟨⟨by decide +kernel, by decide +kernel⟩, List.mem_of_getElem? (i := 43) (by decide +kernel), List.mem_of_getElem? (i := 433) (by decide +kernel), List.mem_of_getElem? (i := 434) (by decide +kernel)⟩
theorem lw_p13 : lw_okq (⟨"DescribeText$Reader", "takeNumber", "(II)I"⟩, 5) := ⟨⟨by decide +kernel, by decide +kernel⟩, List.mem_of_getElem? (i := 43) (by decide +kernel), List.mem_of_getElem? (i := 437) (by decide +kernel), List.mem_of_getElem? (i := 438) (by decide +kernel)⟩
theorem lw_p14 : lw_okq (⟨"DescribeText$Reader", "takeRows", "(LDescribeText$Coding;)V"⟩, 5) := ⟨⟨by decide +kernel, by decide +kernel⟩, List.mem_of_getElem? (i := 43) (by decide +kernel), List.mem_of_getElem? (i := 446) (by decide +kernel), List.mem_of_getElem? (i := 447) (by decide +kernel)⟩
theorem lw_p15 : lw_okq (⟨"DescribeText$Reader", "takeNumberOf", "(LDescribeText$Entry;)V"⟩, 5) := ⟨⟨by decide +kernel, by decide +kernel⟩, List.mem_of_getElem? (i := 43) (by decide +kernel), List.mem_of_getElem? (i := 480) (by decide +kernel), List.mem_of_getElem? (i := 481) (by decide +kernel)⟩
def lw_privs_1 : List (MethodName × Nat) := [(⟨"DescribeText$Tokens", "cutOne", "([BII)I"⟩, 4), (⟨"DescribeText$Tokens", "cutName", "([BII)I"⟩, 4), (⟨"DescribeText$Tokens", "stop", "(II)I"⟩, 4), (⟨"DescribeText$Tokens", "add", "(LDescribeText$Token;IJ)V"⟩, 4), (⟨"DescribeText$Token", "stands", "([BII)Z"⟩, 6), (⟨"DescribeText$Tokens", "cutNumber", "([BII)I"⟩, 4), (⟨"DescribeText$Reader", "sees", "(LDescribeText$Token;)Z"⟩, 5), (⟨"DescribeText$Reader", "takeCoding", "()V"⟩, 5), (⟨"DescribeText$Reader", "begin", "(II)V"⟩, 5), (⟨"DescribeText$Reader", "fail", "()V"⟩, 5), (⟨"DescribeText$Reader", "start", "()I"⟩, 5), (⟨"DescribeText$Reader", "takeName", "()J"⟩, 5), (⟨"DescribeText$Reader", "take", "(LDescribeText$Token;)V"⟩, 5), (⟨"DescribeText$Reader", "takeNumber", "(II)I"⟩, 5), (⟨"DescribeText$Reader", "takeRows", "(LDescribeText$Coding;)V"⟩, 5), (⟨"DescribeText$Reader", "takeNumberOf", "(LDescribeText$Entry;)V"⟩, 5)]
theorem lw_r1 : ∀ q ∈ lw_privs_1, lw_okq q := List.forall_mem_cons.mpr ⟨lw_p0, List.forall_mem_cons.mpr ⟨lw_p1, List.forall_mem_cons.mpr ⟨lw_p2, List.forall_mem_cons.mpr ⟨lw_p3, List.forall_mem_cons.mpr ⟨lw_p4, List.forall_mem_cons.mpr ⟨lw_p5, List.forall_mem_cons.mpr ⟨lw_p6, List.forall_mem_cons.mpr ⟨lw_p7, List.forall_mem_cons.mpr ⟨lw_p8, List.forall_mem_cons.mpr ⟨lw_p9, List.forall_mem_cons.mpr ⟨lw_p10, List.forall_mem_cons.mpr ⟨lw_p11, List.forall_mem_cons.mpr ⟨lw_p12, List.forall_mem_cons.mpr ⟨lw_p13, List.forall_mem_cons.mpr ⟨lw_p14, List.forall_mem_cons.mpr ⟨lw_p15, fun _ h => absurd h List.not_mem_nil⟩⟩⟩⟩⟩⟩⟩⟩⟩⟩⟩⟩⟩⟩⟩⟩
theorem lw_p16 : lw_okq (⟨"DescribeText$Reader", "takeNameOf", "(LDescribeText$Entry;)V"⟩, 5) := ⟨⟨by decide +kernel, by decide +kernel⟩, List.mem_of_getElem? (i := 43) (by decide +kernel), List.mem_of_getElem? (i := 485) (by decide +kernel), List.mem_of_getElem? (i := 486) (by decide +kernel)⟩
theorem lw_p17 : lw_okq (⟨"java/util/ArrayList", "add", "(Ljava/lang/Object;[Ljava/lang/Object;I)V"⟩, 3) := ⟨⟨by decide +kernel, by decide +kernel⟩, List.mem_of_getElem? (i := 149) (by decide +kernel), List.mem_of_getElem? (i := 495) (by decide +kernel), List.mem_of_getElem? (i := 496) (by decide +kernel)⟩
theorem lw_p18 : lw_okq (⟨"java/util/ArrayList", "grow", "()[Ljava/lang/Object;"⟩, 3) := ⟨⟨by decide +kernel, by decide +kernel⟩, List.mem_of_getElem? (i := 149) (by decide +kernel), List.mem_of_getElem? (i := 499) (by decide +kernel), List.mem_of_getElem? (i := 500) (by decide +kernel)⟩
theorem lw_p19 : lw_okq (⟨"java/util/ArrayList", "grow", "(I)[Ljava/lang/Object;"⟩, 3) := ⟨⟨by decide +kernel, by decide +kernel⟩, List.mem_of_getElem? (i := 149) (by decide +kernel), List.mem_of_getElem? (i := 503) (by decide +kernel), List.mem_of_getElem? (i := 504) (by decide +kernel)⟩
theorem lw_p20 : lw_okq (⟨"DescribeText$Reader", "takeForm", "(LDescribeText$Coding;)V"⟩, 5) := ⟨⟨by decide +kernel, by decide +kernel⟩, List.mem_of_getElem? (i := 43) (by decide +kernel), List.mem_of_getElem? (i := 554) (by decide +kernel), List.mem_of_getElem? (i := 555) (by decide +kernel)⟩
theorem lw_p21 : lw_okq (⟨"DescribeText$Reader", "takeValue", "()I"⟩, 5) := ⟨⟨by decide +kernel, by decide +kernel⟩, List.mem_of_getElem? (i := 43) (by decide +kernel), List.mem_of_getElem? (i := 562) (by decide +kernel), List.mem_of_getElem? (i := 563) (by decide +kernel)⟩
theorem lw_p22 : lw_okq (⟨"DescribeText$Reader", "takeLayer", "()V"⟩, 5) := ⟨⟨by decide +kernel, by decide +kernel⟩, List.mem_of_getElem? (i := 43) (by decide +kernel), List.mem_of_getElem? (i := 572) (by decide +kernel), List.mem_of_getElem? (i := 573) (by decide +kernel)⟩
theorem lw_p23 : lw_okq (⟨"DescribeText$Reader", "takeService", "(LDescribeText$Layer;)V"⟩, 5) := ⟨⟨by decide +kernel, by decide +kernel⟩, List.mem_of_getElem? (i := 43) (by decide +kernel), List.mem_of_getElem? (i := 613) (by decide +kernel), List.mem_of_getElem? (i := 614) (by decide +kernel)⟩
theorem lw_p24 : lw_okq (⟨"DescribeText$Reader", "takeParameter", "(LDescribeText$Service;)V"⟩, 5) := ⟨⟨by decide +kernel, by decide +kernel⟩, List.mem_of_getElem? (i := 43) (by decide +kernel), List.mem_of_getElem? (i := 657) (by decide +kernel), List.mem_of_getElem? (i := 658) (by decide +kernel)⟩
theorem lw_p25 : lw_okq (⟨"DescribeText$Reader", "takeCode", "()V"⟩, 5) := ⟨⟨by decide +kernel, by decide +kernel⟩, List.mem_of_getElem? (i := 43) (by decide +kernel), List.mem_of_getElem? (i := 747) (by decide +kernel), List.mem_of_getElem? (i := 748) (by decide +kernel)⟩
theorem lw_p26 : lw_okq (⟨"DescribeText$Reader", "takeVariant", "()V"⟩, 5) := ⟨⟨by decide +kernel, by decide +kernel⟩, List.mem_of_getElem? (i := 43) (by decide +kernel), List.mem_of_getElem? (i := 751) (by decide +kernel), List.mem_of_getElem? (i := 752) (by decide +kernel)⟩
theorem lw_p27 : lw_okq (⟨"DescribeText$Reader", "takeJob", "()V"⟩, 5) := ⟨⟨by decide +kernel, by decide +kernel⟩, List.mem_of_getElem? (i := 43) (by decide +kernel), List.mem_of_getElem? (i := 755) (by decide +kernel), List.mem_of_getElem? (i := 756) (by decide +kernel)⟩
theorem lw_p28 : lw_okq (⟨"DescribeText$Reader", "closeWhile", "(LDescribeText$Job;I)V"⟩, 5) := ⟨⟨by decide +kernel, by decide +kernel⟩, List.mem_of_getElem? (i := 43) (by decide +kernel), List.mem_of_getElem? (i := 787) (by decide +kernel), List.mem_of_getElem? (i := 788) (by decide +kernel)⟩
theorem lw_p29 : lw_okq (⟨"DescribeText$Reader", "takeOp", "(LDescribeText$Job;II)I"⟩, 5) := ⟨⟨by decide +kernel, by decide +kernel⟩, List.mem_of_getElem? (i := 43) (by decide +kernel), List.mem_of_getElem? (i := 852) (by decide +kernel), List.mem_of_getElem? (i := 853) (by decide +kernel)⟩
theorem lw_p30 : lw_okq (⟨"DescribeText$Reader", "openWhile", "(LDescribeText$Job;I)I"⟩, 5) := ⟨⟨by decide +kernel, by decide +kernel⟩, List.mem_of_getElem? (i := 43) (by decide +kernel), List.mem_of_getElem? (i := 858) (by decide +kernel), List.mem_of_getElem? (i := 859) (by decide +kernel)⟩
theorem lw_p31 : lw_okq (⟨"DescribeText$Reader", "noteNames", "()V"⟩, 5) := ⟨⟨by decide +kernel, by decide +kernel⟩, List.mem_of_getElem? (i := 43) (by decide +kernel), List.mem_of_getElem? (i := 866) (by decide +kernel), List.mem_of_getElem? (i := 867) (by decide +kernel)⟩
def lw_privs_2 : List (MethodName × Nat) := [(⟨"DescribeText$Reader", "takeNameOf", "(LDescribeText$Entry;)V"⟩, 5), (⟨"java/util/ArrayList", "add", "(Ljava/lang/Object;[Ljava/lang/Object;I)V"⟩, 3), (⟨"java/util/ArrayList", "grow", "()[Ljava/lang/Object;"⟩, 3), (⟨"java/util/ArrayList", "grow", "(I)[Ljava/lang/Object;"⟩, 3), (⟨"DescribeText$Reader", "takeForm", "(LDescribeText$Coding;)V"⟩, 5), (⟨"DescribeText$Reader", "takeValue", "()I"⟩, 5), (⟨"DescribeText$Reader", "takeLayer", "()V"⟩, 5), (⟨"DescribeText$Reader", "takeService", "(LDescribeText$Layer;)V"⟩, 5), (⟨"DescribeText$Reader", "takeParameter", "(LDescribeText$Service;)V"⟩, 5), (⟨"DescribeText$Reader", "takeCode", "()V"⟩, 5), (⟨"DescribeText$Reader", "takeVariant", "()V"⟩, 5), (⟨"DescribeText$Reader", "takeJob", "()V"⟩, 5), (⟨"DescribeText$Reader", "closeWhile", "(LDescribeText$Job;I)V"⟩, 5), (⟨"DescribeText$Reader", "takeOp", "(LDescribeText$Job;II)I"⟩, 5), (⟨"DescribeText$Reader", "openWhile", "(LDescribeText$Job;I)I"⟩, 5), (⟨"DescribeText$Reader", "noteNames", "()V"⟩, 5)]
theorem lw_r2 : ∀ q ∈ lw_privs_2, lw_okq q := List.forall_mem_cons.mpr ⟨lw_p16, List.forall_mem_cons.mpr ⟨lw_p17, List.forall_mem_cons.mpr ⟨lw_p18, List.forall_mem_cons.mpr ⟨lw_p19, List.forall_mem_cons.mpr ⟨lw_p20, List.forall_mem_cons.mpr ⟨lw_p21, List.forall_mem_cons.mpr ⟨lw_p22, List.forall_mem_cons.mpr ⟨lw_p23, List.forall_mem_cons.mpr ⟨lw_p24, List.forall_mem_cons.mpr ⟨lw_p25, List.forall_mem_cons.mpr ⟨lw_p26, List.forall_mem_cons.mpr ⟨lw_p27, List.forall_mem_cons.mpr ⟨lw_p28, List.forall_mem_cons.mpr ⟨lw_p29, List.forall_mem_cons.mpr ⟨lw_p30, List.forall_mem_cons.mpr ⟨lw_p31, fun _ h => absurd h List.not_mem_nil⟩⟩⟩⟩⟩⟩⟩⟩⟩⟩⟩⟩⟩⟩⟩⟩
theorem lw_p32 : lw_okq (⟨"DescribeText$Edition", "findLayers", "()V"⟩, 11) := ⟨⟨by decide +kernel, by decide +kernel⟩, List.mem_of_getElem? (i := 143) (by decide +kernel), List.mem_of_getElem? (i := 892) (by decide +kernel), List.mem_of_getElem? (i := 893) (by decide +kernel)⟩
theorem lw_p33 : lw_okq (⟨"DescribeText$Edition", "layerNamed", "(J)LDescribeText$Layer;"⟩, 11) := ⟨⟨by decide +kernel, by decide +kernel⟩, List.mem_of_getElem? (i := 143) (by decide +kernel), List.mem_of_getElem? (i := 899) (by decide +kernel), List.mem_of_getElem? (i := 900) (by decide +kernel)⟩
theorem lw_p34 : lw_okq (⟨"DescribeText$Edition", "expect", "(ZI)V"⟩, 11) := ⟨⟨by decide +kernel, by decide +kernel⟩, List.mem_of_getElem? (i := 143) (by decide +kernel), List.mem_of_getElem? (i := 903) (by decide +kernel), List.mem_of_getElem? (i := 904) (by decide +kernel)⟩
theorem lw_p35 : lw_okq (⟨"DescribeText$Edition", "isFirst", "(I)Z"⟩, 11) := ⟨⟨by decide +kernel, by decide +kernel⟩, List.mem_of_getElem? (i := 143) (by decide +kernel), List.mem_of_getElem? (i := 907) (by decide +kernel), List.mem_of_getElem? (i := 908) (by decide +kernel)⟩
theorem lw_p36 : lw_okq (⟨"DescribeText$Edition", "codingNamed", "(J)LDescribeText$Coding;"⟩, 11) := ⟨⟨by decide +kernel, by decide +kernel⟩, List.mem_of_getElem? (i := 143) (by decide +kernel), List.mem_of_getElem? (i := 916) (by decide +kernel), List.mem_of_getElem? (i := 917) (by decide +kernel)⟩
theorem lw_p37 : lw_okq (⟨"DescribeText$Edition", "expectNumbersOnce", "(Ljava/util/ArrayList;)V"⟩, 11) := ⟨⟨by decide +kernel, by decide +kernel⟩, List.mem_of_getElem? (i := 143) (by decide +kernel), List.mem_of_getElem? (i := 920) (by decide +kernel), List.mem_of_getElem? (i := 921) (by decide +kernel)⟩
theorem lw_p38 : lw_okq (⟨"DescribeText$Edition", "serviceIn", "(LDescribeText$Layer;J)LDescribeText$Service;"⟩, 11) := ⟨⟨by decide +kernel, by decide +kernel⟩, List.mem_of_getElem? (i := 143) (by decide +kernel), List.mem_of_getElem? (i := 932) (by decide +kernel), List.mem_of_getElem? (i := 933) (by decide +kernel)⟩
theorem lw_p39 : lw_okq (⟨"DescribeText$Edition", "findParameters", "(LDescribeText$Service;)V"⟩, 11) := ⟨⟨by decide +kernel, by decide +kernel⟩, List.mem_of_getElem? (i := 143) (by decide +kernel), List.mem_of_getElem? (i := 936) (by decide +kernel), List.mem_of_getElem? (i := 937) (by decide +kernel)⟩
theorem lw_p40 : lw_okq (⟨"DescribeText$Edition", "findVariants", "()V"⟩, 11) := ⟨⟨by decide +kernel, by decide +kernel⟩, List.mem_of_getElem? (i := 143) (by decide +kernel), List.mem_of_getElem? (i := 948) (by decide +kernel), List.mem_of_getElem? (i := 949) (by decide +kernel)⟩
theorem lw_p41 : lw_okq (⟨"DescribeText$Edition", "jobNamed", "(J)LDescribeText$Job;"⟩, 11) := ⟨⟨by decide +kernel, by decide +kernel⟩, List.mem_of_getElem? (i := 143) (by decide +kernel), List.mem_of_getElem? (i := 953) (by decide +kernel), List.mem_of_getElem? (i := 954) (by decide +kernel)⟩
theorem lw_p42 : lw_okq (⟨"DescribeText$Edition", "findGets", "(LDescribeText$Job;)V"⟩, 11) := ⟨⟨by decide +kernel, by decide +kernel⟩, List.mem_of_getElem? (i := 143) (by decide +kernel), List.mem_of_getElem? (i := 957) (by decide +kernel), List.mem_of_getElem? (i := 958) (by decide +kernel)⟩
theorem lw_p43 : lw_okq (⟨"DescribeText$Edition", "serviceNamed", "(J)LDescribeText$Service;"⟩, 11) := ⟨⟨by decide +kernel, by decide +kernel⟩, List.mem_of_getElem? (i := 143) (by decide +kernel), List.mem_of_getElem? (i := 963) (by decide +kernel), List.mem_of_getElem? (i := 964) (by decide +kernel)⟩
theorem lw_p44 : lw_okq (⟨"DescribeText", "lineAt", "(I)I"⟩, 9) := ⟨⟨by decide +kernel, by decide +kernel⟩, List.mem_of_getElem? (i := 35) (by decide +kernel), List.mem_of_getElem? (i := 967) (by decide +kernel), List.mem_of_getElem? (i := 968) (by decide +kernel)⟩
theorem lw_p45 : lw_okq (⟨"DescribeText", "take", "(LDescribeText$Edition;)V"⟩, 9) := ⟨⟨by decide +kernel, by decide +kernel⟩, List.mem_of_getElem? (i := 35) (by decide +kernel), List.mem_of_getElem? (i := 971) (by decide +kernel), List.mem_of_getElem? (i := 972) (by decide +kernel)⟩
theorem lw_p46 : lw_okq (⟨"DescribeText", "serviceNumbered", "(I)LDescribeText$Service;"⟩, 9) := ⟨⟨by decide +kernel, by decide +kernel⟩, List.mem_of_getElem? (i := 35) (by decide +kernel), List.mem_of_getElem? (i := 984) (by decide +kernel), List.mem_of_getElem? (i := 985) (by decide +kernel)⟩
theorem lw_p47 : lw_okq (⟨"DescribeText$Service", "forget", "()V"⟩, 6) := ⟨⟨by decide +kernel, by decide +kernel⟩, List.mem_of_getElem? (i := 617) (by decide +kernel), List.mem_of_getElem? (i := 1012) (by decide +kernel), List.mem_of_getElem? (i := 1013) (by decide +kernel)⟩
def lw_privs_3 : List (MethodName × Nat) := [(⟨"DescribeText$Edition", "findLayers", "()V"⟩, 11), (⟨"DescribeText$Edition", "layerNamed", "(J)LDescribeText$Layer;"⟩, 11), (⟨"DescribeText$Edition", "expect", "(ZI)V"⟩, 11), (⟨"DescribeText$Edition", "isFirst", "(I)Z"⟩, 11), (⟨"DescribeText$Edition", "codingNamed", "(J)LDescribeText$Coding;"⟩, 11), (⟨"DescribeText$Edition", "expectNumbersOnce", "(Ljava/util/ArrayList;)V"⟩, 11), (⟨"DescribeText$Edition", "serviceIn", "(LDescribeText$Layer;J)LDescribeText$Service;"⟩, 11), (⟨"DescribeText$Edition", "findParameters", "(LDescribeText$Service;)V"⟩, 11), (⟨"DescribeText$Edition", "findVariants", "()V"⟩, 11), (⟨"DescribeText$Edition", "jobNamed", "(J)LDescribeText$Job;"⟩, 11), (⟨"DescribeText$Edition", "findGets", "(LDescribeText$Job;)V"⟩, 11), (⟨"DescribeText$Edition", "serviceNamed", "(J)LDescribeText$Service;"⟩, 11), (⟨"DescribeText", "lineAt", "(I)I"⟩, 9), (⟨"DescribeText", "take", "(LDescribeText$Edition;)V"⟩, 9), (⟨"DescribeText", "serviceNumbered", "(I)LDescribeText$Service;"⟩, 9), (⟨"DescribeText$Service", "forget", "()V"⟩, 6)]
theorem lw_r3 : ∀ q ∈ lw_privs_3, lw_okq q := List.forall_mem_cons.mpr ⟨lw_p32, List.forall_mem_cons.mpr ⟨lw_p33, List.forall_mem_cons.mpr ⟨lw_p34, List.forall_mem_cons.mpr ⟨lw_p35, List.forall_mem_cons.mpr ⟨lw_p36, List.forall_mem_cons.mpr ⟨lw_p37, List.forall_mem_cons.mpr ⟨lw_p38, List.forall_mem_cons.mpr ⟨lw_p39, List.forall_mem_cons.mpr ⟨lw_p40, List.forall_mem_cons.mpr ⟨lw_p41, List.forall_mem_cons.mpr ⟨lw_p42, List.forall_mem_cons.mpr ⟨lw_p43, List.forall_mem_cons.mpr ⟨lw_p44, List.forall_mem_cons.mpr ⟨lw_p45, List.forall_mem_cons.mpr ⟨lw_p46, List.forall_mem_cons.mpr ⟨lw_p47, fun _ h => absurd h List.not_mem_nil⟩⟩⟩⟩⟩⟩⟩⟩⟩⟩⟩⟩⟩⟩⟩⟩
theorem lw_p48 : lw_okq (⟨"DescribeText$Parameter", "groups", "()I"⟩, 15) := ⟨⟨by decide +kernel, by decide +kernel⟩, List.mem_of_getElem? (i := 661) (by decide +kernel), List.mem_of_getElem? (i := 1028) (by decide +kernel), List.mem_of_getElem? (i := 1029) (by decide +kernel)⟩
theorem lw_p49 : lw_okq (⟨"DescribeText$Coding", "highest", "()J"⟩, 10) := ⟨⟨by decide +kernel, by decide +kernel⟩, List.mem_of_getElem? (i := 367) (by decide +kernel), List.mem_of_getElem? (i := 1045) (by decide +kernel), List.mem_of_getElem? (i := 1046) (by decide +kernel)⟩
theorem lw_p50 : lw_okq (⟨"DescribeText$Coding", "whole", "(J)J"⟩, 10) := ⟨⟨by decide +kernel, by decide +kernel⟩, List.mem_of_getElem? (i := 367) (by decide +kernel), List.mem_of_getElem? (i := 1053) (by decide +kernel), List.mem_of_getElem? (i := 1054) (by decide +kernel)⟩
theorem lw_p51 : lw_okq (⟨"DescribeText$Coding", "lowest", "()J"⟩, 10) := ⟨⟨by decide +kernel, by decide +kernel⟩, List.mem_of_getElem? (i := 367) (by decide +kernel), List.mem_of_getElem? (i := 1092) (by decide +kernel), List.mem_of_getElem? (i := 1093) (by decide +kernel)⟩
theorem lw_p52 : lw_okq (⟨"DescribeText$Edition", "isVariant", "(LDescribeText$Layer;)Z"⟩, 11) := ⟨⟨by decide +kernel, by decide +kernel⟩, List.mem_of_getElem? (i := 143) (by decide +kernel), List.mem_of_getElem? (i := 1115) (by decide +kernel), List.mem_of_getElem? (i := 1116) (by decide +kernel)⟩
theorem lw_p53 : lw_okq (⟨"DescribeText$Job", "refusalOf", "(LDescribeText$Token;LDescribeText$Octets;)I"⟩, 5) := ⟨⟨by decide +kernel, by decide +kernel⟩, List.mem_of_getElem? (i := 759) (by decide +kernel), List.mem_of_getElem? (i := 1133) (by decide +kernel), List.mem_of_getElem? (i := 1134) (by decide +kernel)⟩
theorem lw_p54 : lw_okq (⟨"DescribeText$Job", "lift", "()J"⟩, 5) := ⟨⟨by decide +kernel, by decide +kernel⟩, List.mem_of_getElem? (i := 759) (by decide +kernel), List.mem_of_getElem? (i := 1140) (by decide +kernel), List.mem_of_getElem? (i := 1141) (by decide +kernel)⟩
theorem lw_p55 : lw_okq (⟨"DescribeText$Job", "step", "(LDescribeText$Op;LDescribeText$Octets;LDescribeText$Octets;)V"⟩, 5) := ⟨⟨by decide +kernel, by decide +kernel⟩, List.mem_of_getElem? (i := 759) (by decide +kernel), List.mem_of_getElem? (i := 1144) (by decide +kernel), List.mem_of_getElem? (i := 1145) (by decide +kernel)⟩
theorem lw_p56 : lw_okq (⟨"DescribeText$Job", "lay", "(J)V"⟩, 5) := ⟨⟨by decide +kernel, by decide +kernel⟩, List.mem_of_getElem? (i := 759) (by decide +kernel), List.mem_of_getElem? (i := 1150) (by decide +kernel), List.mem_of_getElem? (i := 1151) (by decide +kernel)⟩
theorem lw_p57 : lw_okq (⟨"DescribeText$Job", "join", "(LDescribeText$Token;)V"⟩, 5) := ⟨⟨by decide +kernel, by decide +kernel⟩, List.mem_of_getElem? (i := 759) (by decide +kernel), List.mem_of_getElem? (i := 1167) (by decide +kernel), List.mem_of_getElem? (i := 1168) (by decide +kernel)⟩
theorem lw_p58 : lw_okq (⟨"DescribeText$Edition", "hasLike", "(LDescribeText$Service;)Z"⟩, 11) := ⟨⟨by decide +kernel, by decide +kernel⟩, List.mem_of_getElem? (i := 143) (by decide +kernel), List.mem_of_getElem? (i := 1183) (by decide +kernel), List.mem_of_getElem? (i := 1184) (by decide +kernel)⟩
theorem lw_p59 : lw_okq (⟨"java/lang/Throwable", "fillInStackTrace", "(I)Ljava/lang/Throwable;"⟩, 6) := ⟨⟨by decide +kernel, by decide +kernel⟩, List.mem_of_getElem? (i := 1253) (by decide +kernel), List.mem_of_getElem? (i := 1251) (by decide +kernel), List.mem_of_getElem? (i := 1252) (by decide +kernel)⟩
theorem lw_p60 : lw_okq (⟨"DescribeTextModel", "readInto", "([III)I"⟩, 76) := ⟨⟨by decide +kernel, by decide +kernel⟩, List.mem_of_getElem? (i := 1282) (by decide +kernel), List.mem_of_getElem? (i := 1530) (by decide +kernel), List.mem_of_getElem? (i := 1531) (by decide +kernel)⟩
theorem lw_p61 : lw_okq (⟨"DescribeTextModel", "clear", "()V"⟩, 76) := ⟨⟨by decide +kernel, by decide +kernel⟩, List.mem_of_getElem? (i := 1282) (by decide +kernel), List.mem_of_getElem? (i := 1534) (by decide +kernel), List.mem_of_getElem? (i := 1535) (by decide +kernel)⟩
theorem lw_p62 : lw_okq (⟨"DescribeTextModel", "next", "()V"⟩, 76) := ⟨⟨by decide +kernel, by decide +kernel⟩, List.mem_of_getElem? (i := 1282) (by decide +kernel), List.mem_of_getElem? (i := 1538) (by decide +kernel), List.mem_of_getElem? (i := 1539) (by decide +kernel)⟩
theorem lw_p63 : lw_okq (⟨"DescribeTextModel", "here", "()I"⟩, 76) := ⟨⟨by decide +kernel, by decide +kernel⟩, List.mem_of_getElem? (i := 1282) (by decide +kernel), List.mem_of_getElem? (i := 1542) (by decide +kernel), List.mem_of_getElem? (i := 1543) (by decide +kernel)⟩
def lw_privs_4 : List (MethodName × Nat) := [(⟨"DescribeText$Parameter", "groups", "()I"⟩, 15), (⟨"DescribeText$Coding", "highest", "()J"⟩, 10), (⟨"DescribeText$Coding", "whole", "(J)J"⟩, 10), (⟨"DescribeText$Coding", "lowest", "()J"⟩, 10), (⟨"DescribeText$Edition", "isVariant", "(LDescribeText$Layer;)Z"⟩, 11), (⟨"DescribeText$Job", "refusalOf", "(LDescribeText$Token;LDescribeText$Octets;)I"⟩, 5), (⟨"DescribeText$Job", "lift", "()J"⟩, 5), (⟨"DescribeText$Job", "step", "(LDescribeText$Op;LDescribeText$Octets;LDescribeText$Octets;)V"⟩, 5), (⟨"DescribeText$Job", "lay", "(J)V"⟩, 5), (⟨"DescribeText$Job", "join", "(LDescribeText$Token;)V"⟩, 5), (⟨"DescribeText$Edition", "hasLike", "(LDescribeText$Service;)Z"⟩, 11), (⟨"java/lang/Throwable", "fillInStackTrace", "(I)Ljava/lang/Throwable;"⟩, 6), (⟨"DescribeTextModel", "readInto", "([III)I"⟩, 76), (⟨"DescribeTextModel", "clear", "()V"⟩, 76), (⟨"DescribeTextModel", "next", "()V"⟩, 76), (⟨"DescribeTextModel", "here", "()I"⟩, 76)]
theorem lw_r4 : ∀ q ∈ lw_privs_4, lw_okq q := List.forall_mem_cons.mpr ⟨lw_p48, List.forall_mem_cons.mpr ⟨lw_p49, List.forall_mem_cons.mpr ⟨lw_p50, List.forall_mem_cons.mpr ⟨lw_p51, List.forall_mem_cons.mpr ⟨lw_p52, List.forall_mem_cons.mpr ⟨lw_p53, List.forall_mem_cons.mpr ⟨lw_p54, List.forall_mem_cons.mpr ⟨lw_p55, List.forall_mem_cons.mpr ⟨lw_p56, List.forall_mem_cons.mpr ⟨lw_p57, List.forall_mem_cons.mpr ⟨lw_p58, List.forall_mem_cons.mpr ⟨lw_p59, List.forall_mem_cons.mpr ⟨lw_p60, List.forall_mem_cons.mpr ⟨lw_p61, List.forall_mem_cons.mpr ⟨lw_p62, List.forall_mem_cons.mpr ⟨lw_p63, fun _ h => absurd h List.not_mem_nil⟩⟩⟩⟩⟩⟩⟩⟩⟩⟩⟩⟩⟩⟩⟩⟩
theorem lw_p64 : lw_okq (⟨"DescribeTextModel", "wordOf", "(II)I"⟩, 76) := ⟨⟨by decide +kernel, by decide +kernel⟩, List.mem_of_getElem? (i := 1282) (by decide +kernel), List.mem_of_getElem? (i := 1552) (by decide +kernel), List.mem_of_getElem? (i := 1553) (by decide +kernel)⟩
theorem lw_p65 : lw_okq (⟨"DescribeTextModel", "packed", "(II)J"⟩, 76) := ⟨⟨by decide +kernel, by decide +kernel⟩, List.mem_of_getElem? (i := 1282) (by decide +kernel), List.mem_of_getElem? (i := 1556) (by decide +kernel), List.mem_of_getElem? (i := 1557) (by decide +kernel)⟩
theorem lw_p66 : lw_okq (⟨"DescribeTextModel", "nameOf", "(II)I"⟩, 76) := ⟨⟨by decide +kernel, by decide +kernel⟩, List.mem_of_getElem? (i := 1282) (by decide +kernel), List.mem_of_getElem? (i := 1587) (by decide +kernel), List.mem_of_getElem? (i := 1588) (by decide +kernel)⟩
theorem lw_p67 : lw_okq (⟨"DescribeTextModel", "statement", "()V"⟩, 76) := ⟨⟨by decide +kernel, by decide +kernel⟩, List.mem_of_getElem? (i := 1282) (by decide +kernel), List.mem_of_getElem? (i := 1591) (by decide +kernel), List.mem_of_getElem? (i := 1592) (by decide +kernel)⟩
theorem lw_p68 : lw_okq (⟨"DescribeTextModel", "codingStatement", "()V"⟩, 76) := ⟨⟨by decide +kernel, by decide +kernel⟩, List.mem_of_getElem? (i := 1282) (by decide +kernel), List.mem_of_getElem? (i := 1595) (by decide +kernel), List.mem_of_getElem? (i := 1596) (by decide +kernel)⟩
theorem lw_p69 : lw_okq (⟨"DescribeTextModel", "begins", "(II)Z"⟩, 76) := ⟨⟨by decide +kernel, by decide +kernel⟩, List.mem_of_getElem? (i := 1282) (by decide +kernel), List.mem_of_getElem? (i := 1599) (by decide +kernel), List.mem_of_getElem? (i := 1600) (by decide +kernel)⟩
theorem lw_p70 : lw_okq (⟨"DescribeTextModel", "wants", "(Z)Z"⟩, 76) := ⟨⟨by decide +kernel, by decide +kernel⟩, List.mem_of_getElem? (i := 1282) (by decide +kernel), List.mem_of_getElem? (i := 1603) (by decide +kernel), List.mem_of_getElem? (i := 1604) (by decide +kernel)⟩
theorem lw_p71 : lw_okq (⟨"DescribeTextModel", "claim", "(III)V"⟩, 76) := ⟨⟨by decide +kernel, by decide +kernel⟩, List.mem_of_getElem? (i := 1282) (by decide +kernel), List.mem_of_getElem? (i := 1607) (by decide +kernel), List.mem_of_getElem? (i := 1608) (by decide +kernel)⟩
theorem lw_p72 : lw_okq (⟨"DescribeTextModel", "name", "()I"⟩, 76) := ⟨⟨by decide +kernel, by decide +kernel⟩, List.mem_of_getElem? (i := 1282) (by decide +kernel), List.mem_of_getElem? (i := 1611) (by decide +kernel), List.mem_of_getElem? (i := 1612) (by decide +kernel)⟩
theorem lw_p73 : lw_okq (⟨"DescribeTextModel", "mark", "(I)V"⟩, 76) := ⟨⟨by decide +kernel, by decide +kernel⟩, List.mem_of_getElem? (i := 1282) (by decide +kernel), List.mem_of_getElem? (i := 1615) (by decide +kernel), List.mem_of_getElem? (i := 1616) (by decide +kernel)⟩
theorem lw_p74 : lw_okq (⟨"DescribeTextModel", "number", "(II)I"⟩, 76) := ⟨⟨by decide +kernel, by decide +kernel⟩, List.mem_of_getElem? (i := 1282) (by decide +kernel), List.mem_of_getElem? (i := 1619) (by decide +kernel), List.mem_of_getElem? (i := 1620) (by decide +kernel)⟩
theorem lw_p75 : lw_okq (⟨"DescribeTextModel", "word", "(I)V"⟩, 76) := ⟨⟨by decide +kernel, by decide +kernel⟩, List.mem_of_getElem? (i := 1282) (by decide +kernel), List.mem_of_getElem? (i := 1623) (by decide +kernel), List.mem_of_getElem? (i := 1624) (by decide +kernel)⟩
theorem lw_p76 : lw_okq (⟨"DescribeTextModel", "isSign", "(I)Z"⟩, 76) := ⟨⟨by decide +kernel, by decide +kernel⟩, List.mem_of_getElem? (i := 1282) (by decide +kernel), List.mem_of_getElem? (i := 1627) (by decide +kernel), List.mem_of_getElem? (i := 1628) (by decide +kernel)⟩
theorem lw_p77 : lw_okq (⟨"DescribeTextModel", "isWord", "(I)Z"⟩, 76) := ⟨⟨by decide +kernel, by decide +kernel⟩, List.mem_of_getElem? (i := 1282) (by decide +kernel), List.mem_of_getElem? (i := 1632) (by decide +kernel), List.mem_of_getElem? (i := 1633) (by decide +kernel)⟩
theorem lw_p78 : lw_okq (⟨"DescribeTextModel", "signed", "()I"⟩, 76) := ⟨⟨by decide +kernel, by decide +kernel⟩, List.mem_of_getElem? (i := 1282) (by decide +kernel), List.mem_of_getElem? (i := 1636) (by decide +kernel), List.mem_of_getElem? (i := 1637) (by decide +kernel)⟩
theorem lw_p79 : lw_okq (⟨"DescribeTextModel", "layerStatement", "()V"⟩, 76) := ⟨⟨by decide +kernel, by decide +kernel⟩, List.mem_of_getElem? (i := 1282) (by decide +kernel), List.mem_of_getElem? (i := 1640) (by decide +kernel), List.mem_of_getElem? (i := 1641) (by decide +kernel)⟩
def lw_privs_5 : List (MethodName × Nat) := [(⟨"DescribeTextModel", "wordOf", "(II)I"⟩, 76), (⟨"DescribeTextModel", "packed", "(II)J"⟩, 76), (⟨"DescribeTextModel", "nameOf", "(II)I"⟩, 76), (⟨"DescribeTextModel", "statement", "()V"⟩, 76), (⟨"DescribeTextModel", "codingStatement", "()V"⟩, 76), (⟨"DescribeTextModel", "begins", "(II)Z"⟩, 76), (⟨"DescribeTextModel", "wants", "(Z)Z"⟩, 76), (⟨"DescribeTextModel", "claim", "(III)V"⟩, 76), (⟨"DescribeTextModel", "name", "()I"⟩, 76), (⟨"DescribeTextModel", "mark", "(I)V"⟩, 76), (⟨"DescribeTextModel", "number", "(II)I"⟩, 76), (⟨"DescribeTextModel", "word", "(I)V"⟩, 76), (⟨"DescribeTextModel", "isSign", "(I)Z"⟩, 76), (⟨"DescribeTextModel", "isWord", "(I)Z"⟩, 76), (⟨"DescribeTextModel", "signed", "()I"⟩, 76), (⟨"DescribeTextModel", "layerStatement", "()V"⟩, 76)]
theorem lw_r5 : ∀ q ∈ lw_privs_5, lw_okq q := List.forall_mem_cons.mpr ⟨lw_p64, List.forall_mem_cons.mpr ⟨lw_p65, List.forall_mem_cons.mpr ⟨lw_p66, List.forall_mem_cons.mpr ⟨lw_p67, List.forall_mem_cons.mpr ⟨lw_p68, List.forall_mem_cons.mpr ⟨lw_p69, List.forall_mem_cons.mpr ⟨lw_p70, List.forall_mem_cons.mpr ⟨lw_p71, List.forall_mem_cons.mpr ⟨lw_p72, List.forall_mem_cons.mpr ⟨lw_p73, List.forall_mem_cons.mpr ⟨lw_p74, List.forall_mem_cons.mpr ⟨lw_p75, List.forall_mem_cons.mpr ⟨lw_p76, List.forall_mem_cons.mpr ⟨lw_p77, List.forall_mem_cons.mpr ⟨lw_p78, List.forall_mem_cons.mpr ⟨lw_p79, fun _ h => absurd h List.not_mem_nil⟩⟩⟩⟩⟩⟩⟩⟩⟩⟩⟩⟩⟩⟩⟩⟩
theorem lw_p80 : lw_okq (⟨"DescribeTextModel", "serviceStatement", "(I)V"⟩, 76) := ⟨⟨by decide +kernel, by decide +kernel⟩, List.mem_of_getElem? (i := 1282) (by decide +kernel), List.mem_of_getElem? (i := 1644) (by decide +kernel), List.mem_of_getElem? (i := 1645) (by decide +kernel)⟩
theorem lw_p81 : lw_okq (⟨"DescribeTextModel", "paramStatement", "(I)V"⟩, 76) := ⟨⟨by decide +kernel, by decide +kernel⟩, List.mem_of_getElem? (i := 1282) (by decide +kernel), List.mem_of_getElem? (i := 1648) (by decide +kernel), List.mem_of_getElem? (i := 1649) (by decide +kernel)⟩
theorem lw_p82 : lw_okq (⟨"DescribeTextModel", "codeStatement", "()V"⟩, 76) := ⟨⟨by decide +kernel, by decide +kernel⟩, List.mem_of_getElem? (i := 1282) (by decide +kernel), List.mem_of_getElem? (i := 1652) (by decide +kernel), List.mem_of_getElem? (i := 1653) (by decide +kernel)⟩
theorem lw_p83 : lw_okq (⟨"DescribeTextModel", "variantStatement", "()V"⟩, 76) := ⟨⟨by decide +kernel, by decide +kernel⟩, List.mem_of_getElem? (i := 1282) (by decide +kernel), List.mem_of_getElem? (i := 1656) (by decide +kernel), List.mem_of_getElem? (i := 1657) (by decide +kernel)⟩
theorem lw_p84 : lw_okq (⟨"DescribeTextModel", "jobStatement", "()V"⟩, 76) := ⟨⟨by decide +kernel, by decide +kernel⟩, List.mem_of_getElem? (i := 1282) (by decide +kernel), List.mem_of_getElem? (i := 1660) (by decide +kernel), List.mem_of_getElem? (i := 1661) (by decide +kernel)⟩
theorem lw_p85 : lw_okq (⟨"DescribeTextModel", "addOp", "(IIII)V"⟩, 76) := ⟨⟨by decide +kernel, by decide +kernel⟩, List.mem_of_getElem? (i := 1282) (by decide +kernel), List.mem_of_getElem? (i := 1664) (by decide +kernel), List.mem_of_getElem? (i := 1665) (by decide +kernel)⟩
theorem lw_p86 : lw_okq (⟨"DescribeTextModel", "op", "(I)V"⟩, 76) := ⟨⟨by decide +kernel, by decide +kernel⟩, List.mem_of_getElem? (i := 1282) (by decide +kernel), List.mem_of_getElem? (i := 1668) (by decide +kernel), List.mem_of_getElem? (i := 1669) (by decide +kernel)⟩
theorem lw_p87 : lw_okq (⟨"DescribeTextModel", "firstWrong", "()I"⟩, 76) := ⟨⟨by decide +kernel, by decide +kernel⟩, List.mem_of_getElem? (i := 1282) (by decide +kernel), List.mem_of_getElem? (i := 1672) (by decide +kernel), List.mem_of_getElem? (i := 1673) (by decide +kernel)⟩
theorem lw_p88 : lw_okq (⟨"DescribeTextModel", "isWrong", "(III)Z"⟩, 76) := ⟨⟨by decide +kernel, by decide +kernel⟩, List.mem_of_getElem? (i := 1282) (by decide +kernel), List.mem_of_getElem? (i := 1676) (by decide +kernel), List.mem_of_getElem? (i := 1677) (by decide +kernel)⟩
theorem lw_p89 : lw_okq (⟨"DescribeTextModel", "codingAt", "(II)I"⟩, 76) := ⟨⟨by decide +kernel, by decide +kernel⟩, List.mem_of_getElem? (i := 1282) (by decide +kernel), List.mem_of_getElem? (i := 1680) (by decide +kernel), List.mem_of_getElem? (i := 1681) (by decide +kernel)⟩
theorem lw_p90 : lw_okq (⟨"DescribeTextModel", "layerAt", "(II)I"⟩, 76) := ⟨⟨by decide +kernel, by decide +kernel⟩, List.mem_of_getElem? (i := 1282) (by decide +kernel), List.mem_of_getElem? (i := 1684) (by decide +kernel), List.mem_of_getElem? (i := 1685) (by decide +kernel)⟩
theorem lw_p91 : lw_okq (⟨"DescribeTextModel", "serviceAt", "(III)I"⟩, 76) := ⟨⟨by decide +kernel, by decide +kernel⟩, List.mem_of_getElem? (i := 1282) (by decide +kernel), List.mem_of_getElem? (i := 1688) (by decide +kernel), List.mem_of_getElem? (i := 1689) (by decide +kernel)⟩
theorem lw_p92 : lw_okq (⟨"DescribeTextModel", "paramAt", "(III)I"⟩, 76) := ⟨⟨by decide +kernel, by decide +kernel⟩, List.mem_of_getElem? (i := 1282) (by decide +kernel), List.mem_of_getElem? (i := 1692) (by decide +kernel), List.mem_of_getElem? (i := 1693) (by decide +kernel)⟩
theorem lw_p93 : lw_okq (⟨"DescribeTextModel", "isRing", "(I)Z"⟩, 76) := ⟨⟨by decide +kernel, by decide +kernel⟩, List.mem_of_getElem? (i := 1282) (by decide +kernel), List.mem_of_getElem? (i := 1696) (by decide +kernel), List.mem_of_getElem? (i := 1697) (by decide +kernel)⟩
theorem lw_p94 : lw_okq (⟨"DescribeTextModel", "isService", "(I)Z"⟩, 76) := ⟨⟨by decide +kernel, by decide +kernel⟩, List.mem_of_getElem? (i := 1282) (by decide +kernel), List.mem_of_getElem? (i := 1708) (by decide +kernel), List.mem_of_getElem? (i := 1709) (by decide +kernel)⟩
theorem lw_p95 : lw_okq (⟨"DescribeTextModel", "isParam", "(II)Z"⟩, 76) := ⟨⟨by decide +kernel, by decide +kernel⟩, List.mem_of_getElem? (i := 1282) (by decide +kernel), List.mem_of_getElem? (i := 1716) (by decide +kernel), List.mem_of_getElem? (i := 1717) (by decide +kernel)⟩
def lw_privs_6 : List (MethodName × Nat) := [(⟨"DescribeTextModel", "serviceStatement", "(I)V"⟩, 76), (⟨"DescribeTextModel", "paramStatement", "(I)V"⟩, 76), (⟨"DescribeTextModel", "codeStatement", "()V"⟩, 76), (⟨"DescribeTextModel", "variantStatement", "()V"⟩, 76), (⟨"DescribeTextModel", "jobStatement", "()V"⟩, 76), (⟨"DescribeTextModel", "addOp", "(IIII)V"⟩, 76), (⟨"DescribeTextModel", "op", "(I)V"⟩, 76), (⟨"DescribeTextModel", "firstWrong", "()I"⟩, 76), (⟨"DescribeTextModel", "isWrong", "(III)Z"⟩, 76), (⟨"DescribeTextModel", "codingAt", "(II)I"⟩, 76), (⟨"DescribeTextModel", "layerAt", "(II)I"⟩, 76), (⟨"DescribeTextModel", "serviceAt", "(III)I"⟩, 76), (⟨"DescribeTextModel", "paramAt", "(III)I"⟩, 76), (⟨"DescribeTextModel", "isRing", "(I)Z"⟩, 76), (⟨"DescribeTextModel", "isService", "(I)Z"⟩, 76), (⟨"DescribeTextModel", "isParam", "(II)Z"⟩, 76)]
theorem lw_r6 : ∀ q ∈ lw_privs_6, lw_okq q := List.forall_mem_cons.mpr ⟨lw_p80, List.forall_mem_cons.mpr ⟨lw_p81, List.forall_mem_cons.mpr ⟨lw_p82, List.forall_mem_cons.mpr ⟨lw_p83, List.forall_mem_cons.mpr ⟨lw_p84, List.forall_mem_cons.mpr ⟨lw_p85, List.forall_mem_cons.mpr ⟨lw_p86, List.forall_mem_cons.mpr ⟨lw_p87, List.forall_mem_cons.mpr ⟨lw_p88, List.forall_mem_cons.mpr ⟨lw_p89, List.forall_mem_cons.mpr ⟨lw_p90, List.forall_mem_cons.mpr ⟨lw_p91, List.forall_mem_cons.mpr ⟨lw_p92, List.forall_mem_cons.mpr ⟨lw_p93, List.forall_mem_cons.mpr ⟨lw_p94, List.forall_mem_cons.mpr ⟨lw_p95, fun _ h => absurd h List.not_mem_nil⟩⟩⟩⟩⟩⟩⟩⟩⟩⟩⟩⟩⟩⟩⟩⟩
theorem lw_p96 : lw_okq (⟨"DescribeTextModel", "find", "(I[IIZ)I"⟩, 76) := ⟨⟨by decide +kernel, by decide +kernel⟩, List.mem_of_getElem? (i := 1282) (by decide +kernel), List.mem_of_getElem? (i := 1730) (by decide +kernel), List.mem_of_getElem? (i := 1731) (by decide +kernel)⟩
theorem lw_p97 : lw_okq (⟨"DescribeTextModel", "groups", "(II)I"⟩, 76) := ⟨⟨by decide +kernel, by decide +kernel⟩, List.mem_of_getElem? (i := 1282) (by decide +kernel), List.mem_of_getElem? (i := 1734) (by decide +kernel), List.mem_of_getElem? (i := 1735) (by decide +kernel)⟩
theorem lw_p98 : lw_okq (⟨"DescribeTextModel", "above", "(IJ)J"⟩, 76) := ⟨⟨by decide +kernel, by decide +kernel⟩, List.mem_of_getElem? (i := 1282) (by decide +kernel), List.mem_of_getElem? (i := 1740) (by decide +kernel), List.mem_of_getElem? (i := 1741) (by decide +kernel)⟩
theorem lw_p99 : lw_okq (⟨"DescribeTextModel", "below", "(I)I"⟩, 76) := ⟨⟨by decide +kernel, by decide +kernel⟩, List.mem_of_getElem? (i := 1282) (by decide +kernel), List.mem_of_getElem? (i := 1744) (by decide +kernel), List.mem_of_getElem? (i := 1745) (by decide +kernel)⟩
theorem lw_p100 : lw_okq (⟨"DescribeTextModel", "floorValue", "(I)J"⟩, 76) := ⟨⟨by decide +kernel, by decide +kernel⟩, List.mem_of_getElem? (i := 1282) (by decide +kernel), List.mem_of_getElem? (i := 1772) (by decide +kernel), List.mem_of_getElem? (i := 1773) (by decide +kernel)⟩
theorem lw_p101 : lw_okq (⟨"DescribeTextModel", "isLike", "(II)Z"⟩, 76) := ⟨⟨by decide +kernel, by decide +kernel⟩, List.mem_of_getElem? (i := 1282) (by decide +kernel), List.mem_of_getElem? (i := 1780) (by decide +kernel), List.mem_of_getElem? (i := 1781) (by decide +kernel)⟩
theorem lw_p102 : lw_okq (⟨"DescribeTextModel", "isNamed", "(II)Z"⟩, 76) := ⟨⟨by decide +kernel, by decide +kernel⟩, List.mem_of_getElem? (i := 1282) (by decide +kernel), List.mem_of_getElem? (i := 1784) (by decide +kernel), List.mem_of_getElem? (i := 1785) (by decide +kernel)⟩
theorem lw_p103 : lw_okq (⟨"DescribeTextModel", "isCodingLike", "(II)Z"⟩, 76) := ⟨⟨by decide +kernel, by decide +kernel⟩, List.mem_of_getElem? (i := 1282) (by decide +kernel), List.mem_of_getElem? (i := 1788) (by decide +kernel), List.mem_of_getElem? (i := 1789) (by decide +kernel)⟩
def lw_privs_7 : List (MethodName × Nat) := [(⟨"DescribeTextModel", "find", "(I[IIZ)I"⟩, 76), (⟨"DescribeTextModel", "groups", "(II)I"⟩, 76), (⟨"DescribeTextModel", "above", "(IJ)J"⟩, 76), (⟨"DescribeTextModel", "below", "(I)I"⟩, 76), (⟨"DescribeTextModel", "floorValue", "(I)J"⟩, 76), (⟨"DescribeTextModel", "isLike", "(II)Z"⟩, 76), (⟨"DescribeTextModel", "isNamed", "(II)Z"⟩, 76), (⟨"DescribeTextModel", "isCodingLike", "(II)Z"⟩, 76)]
theorem lw_r7 : ∀ q ∈ lw_privs_7, lw_okq q := List.forall_mem_cons.mpr ⟨lw_p96, List.forall_mem_cons.mpr ⟨lw_p97, List.forall_mem_cons.mpr ⟨lw_p98, List.forall_mem_cons.mpr ⟨lw_p99, List.forall_mem_cons.mpr ⟨lw_p100, List.forall_mem_cons.mpr ⟨lw_p101, List.forall_mem_cons.mpr ⟨lw_p102, List.forall_mem_cons.mpr ⟨lw_p103, fun _ h => absurd h List.not_mem_nil⟩⟩⟩⟩⟩⟩⟩⟩
def lw_privs : List (MethodName × Nat) := lw_privs_1 ++ (lw_privs_2 ++ (lw_privs_3 ++ (lw_privs_4 ++ (lw_privs_5 ++ (lw_privs_6 ++ (lw_privs_7))))))
def lw_tbl : List Cond := k2_sels lw_privs ++ tables_1
theorem lw_privs_ok : ∀ q ∈ lw_privs, lw_okq q := by
  show ∀ q ∈ lw_privs_1 ++ (lw_privs_2 ++ (lw_privs_3 ++ (lw_privs_4 ++ (lw_privs_5 ++ (lw_privs_6 ++ (lw_privs_7)))))), lw_okq q
  exact List.forall_mem_append.mpr ⟨lw_r1, List.forall_mem_append.mpr ⟨lw_r2, List.forall_mem_append.mpr ⟨lw_r3, List.forall_mem_append.mpr ⟨lw_r4, List.forall_mem_append.mpr ⟨lw_r5, List.forall_mem_append.mpr ⟨lw_r6, lw_r7⟩⟩⟩⟩⟩⟩
-- ===== end of PART A; then your names; then what follows =====
end
section
/-! ===== MEMORY: what stands at each address of ours (none where nothing of ours stands). All cells that the law's run makes are of one memory; a contract says which memory comes of which. Nothing here knows the claim. ===== -/
def mm_of (L : List Nat) (f : Nat → va_E) : Nat → Option va_E := fun a => if a ∈ L then some (f a) else none
def mm_set (G : Nat → Option va_E) (a : Nat) (e : va_E) : Nat → Option va_E := fun x => if x = a then some e else G x
def mm (D : va_G) (cl : List vw_C) (A : Nat → Prop) (G : Nat → Option va_E) (H : Heap) : Prop := ∃ (L : List Nat) (f : Nat → va_E), G = mm_of L f ∧ va_P D cl (va_pl L f) H ∧ va_D A (va_pl L f)
theorem mm_set_self {G : Nat → Option va_E} {a : Nat} {e : va_E} : mm_set G a e a = some e := by simp [mm_set]
theorem mm_set_ne {G : Nat → Option va_E} {a x : Nat} {e : va_E} (h : x ≠ a) : mm_set G a e x = G x := by simp [mm_set, h]
theorem mm_set_of {G : Nat → Option va_E} {a x : Nat} {e e' : va_E} (h : G x = some e') (hn : x ≠ a) : mm_set G a e x = some e' := by rw [mm_set_ne hn]; exact h
theorem mm_set_new {G : Nat → Option va_E} {a x : Nat} {e e' : va_E} (h : G x = some e') (hn : G a = none) : mm_set G a e x = some e' := by
  refine mm_set_of h (fun z => ?_)
  subst z
  rw [hn] at h
  cases h
theorem mm_of_some {L : List Nat} {f : Nat → va_E} {a : Nat} {e : va_E} (h : mm_of L f a = some e) : a ∈ L ∧ f a = e := by
  unfold mm_of at h
  by_cases ha : a ∈ L
  · rw [if_pos ha] at h
    exact ⟨ha, Option.some.inj h⟩
  · rw [if_neg ha] at h
    cases h
theorem mm_of_up {L : List Nat} {f : Nat → va_E} {a : Nat} {e : va_E} (h : a ∈ L) : mm_set (mm_of L f) a e = mm_of L (va_up f a e) := by
  funext x
  by_cases hx : x = a
  · subst hx
    simp [mm_set, mm_of, h, va_up]
  · simp [mm_set, mm_of, va_up, hx]
theorem mm_of_push {L : List Nat} {f : Nat → va_E} {a : Nat} {e : va_E} : mm_set (mm_of L f) a e = mm_of (L ++ [a]) (va_up f a e) := by
  funext x
  by_cases hx : x = a
  · subst hx
    simp [mm_set, mm_of, va_up]
  · simp [mm_set, mm_of, va_up, hx]
section MMB
variable {D : va_G} {cl : List vw_C} {A : Nat → Prop} {G : Nat → Option va_E} {H : Heap} {a : Nat} {e : va_E}
theorem mm.one (h : mm D cl A G H) (ha : G a = some e) : va_P D cl [(a, e)] H := by
  obtain ⟨L, f, rfl, hP, hD⟩ := h
  obtain ⟨hL, rfl⟩ := mm_of_some ha
  obtain ⟨k, hk⟩ := va_pl_get (X := []) (f := f) hL
  intro j q hj
  have hz : j < 1 := (List.getElem?_eq_some_iff.mp hj).1
  rw [show j = 0 by omega] at hj
  cases hj
  exact hP k _ hk
theorem mm.two (h : mm D cl A G H) {a2 : Nat} {e2 : va_E} (ha : G a = some e) (ha2 : G a2 = some e2) : va_P D cl [(a, e), (a2, e2)] H := (h.one ha).app (h.one ha2)
theorem mm.inA (h : mm D cl A G H) (ha : G a = some e) : A a := by
  obtain ⟨L, f, rfl, hP, hD⟩ := h
  obtain ⟨hL, rfl⟩ := mm_of_some ha
  obtain ⟨k, hk⟩ := va_pl_get (X := []) (f := f) hL
  exact hD.2 k _ hk
theorem mm.lt (h : mm D cl A G H) (ha : G a = some e) : a < H.size := (h.one ha 0 _ rfl).lt
theorem mm.empty : mm D cl A (fun _ => none) H := ⟨[], fun _ => .inr (0, []), by funext x; simp [mm_of], fun k q h => by simp [va_pl] at h, ⟨fun i j p q h => by simp [va_pl] at h, fun k q h => by simp [va_pl] at h⟩⟩
theorem mm_RA {U : State} {c1 c2 : ClassId} {ty : FieldType} (h1 : va_RA U c1 ty) (h2 : va_RA U c2 ty) : c1 = c2 := by
  cases ty with
  | object C =>
    obtain ⟨_, _, -, -, -, q1⟩ := h1
    obtain ⟨_, _, -, -, -, q2⟩ := h2
    exact Option.some.inj (q1.symm.trans q2)
  | _ => exact Option.some.inj (Eq.trans (Eq.symm h1) h2)
end MMB
/-- what a method is given: its arguments, the memory, the tables, the room's upper side, and what stands still (X) -/
def mk_Pre (D : va_G) (cl : List vw_C) (tys : List (ClassId × FieldType)) (A : Nat → Prop) (X : State → Prop) (G : Nat → Option va_E) (av : List Value) : Array Value → State → Prop := va_Pc av (fun U => mm D cl A G U.heap ∧ va_K D cl tys U ∧ (∀ q : Nat, U.heap.size ≤ q → A q) ∧ X U)
/-- X stands still: it speaks of the tables and of cells that are not ours -/
def mk_St (A : Nat → Prop) (X : State → Prop) : Prop := ∀ s U : State, s.WarmedH U.vm → (∀ q : Nat, q < s.heap.size → ¬ A q → U.heap[q]? = s.heap[q]?) → X s → X U
/-- the memory behind a method -/
abbrev mk_B (D : va_G) (cl : List vw_C) (A : Nat → Prop) : (Nat → Option va_E) → State → Prop := fun G t => mm D cl A G t.heap
theorem mk_blind {D : va_G} {cl : List vw_C} {tys : List (ClassId × FieldType)} {A : Nat → Prop} {X : State → Prop} {G : Nat → Option va_E} {av : List Value} (hst : mk_St A X) : FrameBlind (mk_Pre D cl tys A X G av) := by
  intro a U g mk q
  obtain ⟨q0, q1, q2, q3, q4⟩ := q
  exact ⟨q0, q1, va_K.moved (u := U) (U := U.calling g mk a) (Vm.Alike.refl U.vm) q2, q3, hst U (U.calling g mk a) (State.WarmedH.refl U) (fun _ _ _ => rfl) q4⟩
section MMC
variable {D : va_G} {cl : List vw_C} {tys : List (ClassId × FieldType)} {A : Nat → Prop} {X : State → Prop} {G : Nat → Option va_E} {H : Heap} {s : State} {locs : List Loc}
theorem mk_at {As : List Value} (hst : mk_St A X) (hG : mm D cl A G H) (hK : va_K D cl tys s) (hA : ∀ q : Nat, s.heap.size ≤ q → A q) (hX : X s) (hS : va_S A s.heap H locs) : ∀ U : State, U.heap = H → s.WarmedH U.vm → mk_Pre D cl tys A X G As As.toArray U := by
  intro U hU hW
  exact ⟨rfl, by rw [hU]; exact hG, va_K.moved hW.alike hK, fun q h => hA q (Nat.le_trans hS.1 (by rw [← hU]; exact h)), hst s U hW (fun q h1 h2 => by rw [hU]; exact hS.2.1 q h1 h2) hX⟩
/-- a static method's, a constructor's start -/
theorem mk_preS {As : List Value} (hst : mk_St A X) (hG : mm D cl A G H) (hK : va_K D cl tys s) (hA : ∀ q : Nat, s.heap.size ≤ q → A q) (hX : X s) (hS : va_S A s.heap H locs) : PreS s H (mk_Pre D cl tys A X G As) As := ⟨mk_blind hst, mk_at hst hG hK hA hX hS⟩
/-- a method's start -/
theorem mk_preV {As : List Value} {b ci : Nat} {r : vw_C} {fs : List Value} (hst : mk_St A X) (hG : mm D cl A G H) (hK : va_K D cl tys s) (hA : ∀ q : Nat, s.heap.size ≤ q → A q) (hX : X s) (hS : va_S A s.heap H locs) (hc : cl[ci]? = some r) (hb : G b = some (.inr (ci, fs))) : PreV s H r.1 b (mk_Pre D cl tys A X G (.ref b :: As)) As :=
  ⟨mk_blind hst, va_recv hK (hG.one hb) hc (q0 := 0) rfl, mk_at hst hG hK hA hX hS⟩
end MMC
section MMW
variable {p : Program} {l : Launch} {e : Env} {R : Room} {s : State} {m : MethodId} {args : Array Value} {below : List Frame} {meth : Method} {c : Code} {H : Heap} {locs : List Loc} {cells slots : Nat} {Q : State → Prop}
variable {cc : ByteArray} {pc : Nat} {ls : Array Slot} {rest : List Value} {D : va_G} {cl : List vw_C} {A : Nat → Prop} {a : Nat} {tys : List (ClassId × FieldType)} {G : Nat → Option va_E} {H0 : Heap}
theorem mm_get (hexec : p.tables.exec = Jvm.exec) (hb : c.code = cc) {own ref C : String} {T : u_T} {N ci index : Nat} {Ts : List Cond} (hts : ∀ w ∈ Ts, w.before args s = true) (hin : ∀ w ∈ u_ws C T N, w ∈ Ts) (hown : s.vm.findClass own = some m.cls) (hK : va_K D cl tys s) (hG : mm D cl A G H) {fs : List Value} (ha : G a = some (.inr (ci, fs))) (hc : cl[ci]? = some (C, T, N)) (k : Nat) (hk : k < N) (hlink : (Cond.fieldLink own index ref (T k).2.1 (T k).2.2.1).before args s = true) (hsame : ∀ x, s.fieldFound? (T k).1 (T k).2.1 (T k).2.2.1 = some x → s.fieldFound? ref (T k).2.1 (T k).2.2.1 = some x) {v : Value} (hv : fs[k]? = some v) (hdg : decode cc pc = .ok (.getfield index, 3))
    (kk : W p l e R s m args below meth c H locs cells slots Q (F0 m (pc + 3) ls (v :: rest))) : W p l e R s m args below meth c H locs cells slots Q (F0 m pc ls (.ref a :: rest)) :=
  va_get hexec hb hts hin hown hK (hG.one ha) 0 rfl hc k hk hlink hsame hv hdg kk
theorem mm_getN (hexec : p.tables.exec = Jvm.exec) (hb : c.code = cc) {own ref C host : String} {T : u_T} {N ci index : Nat} {Ts : List Cond} (hts : ∀ w ∈ Ts, w.before args s = true) (hin : ∀ w ∈ u_ws C T N, w ∈ Ts) (hown : s.vm.findClass own = some m.cls) (hK : va_K D cl tys s) (hG : mm D cl A G H) {fs : List Value} (ha : G a = some (.inr (ci, fs))) (hc : cl[ci]? = some (C, T, N)) (k : Nat) (hk : k < N) (hlink : (Cond.fieldLinkNest own index ref (T k).2.1 (T k).2.2.1 host).before args s = true) (hsame : ∀ x, s.fieldFound? (T k).1 (T k).2.1 (T k).2.2.1 = some x → s.fieldFound? ref (T k).2.1 (T k).2.2.1 = some x) {v : Value} (hv : fs[k]? = some v) (hdg : decode cc pc = .ok (.getfield index, 3))
    (kk : W p l e R s m args below meth c H locs cells slots Q (F0 m (pc + 3) ls (v :: rest))) : W p l e R s m args below meth c H locs cells slots Q (F0 m pc ls (.ref a :: rest)) :=
  va_getN hexec hb hts hin hown hK (hG.one ha) 0 rfl hc k hk hlink hsame hv hdg kk
/-- one cell written: the memory behind it -/
theorem mm_wrote {L : List Nat} {f : Nat → va_E} {k : Nat} {e' : va_E} {H1 : Heap} (hD : va_D A (va_pl L f)) (hL : a ∈ L) (hk : (va_pl L f)[k]? = some (a, f a)) (hP1 : va_P D cl ((va_pl L f).set k (a, e')) H1) (hD1 : va_D A ((va_pl L f).set k (a, e'))) : mm D cl A (mm_set (mm_of L f) a e') H1 := by
  have h := va_pl_set (X := []) (f := f) (e := e') hD hL hk
  have h' : (va_pl L f).set k (a, e') = va_pl L (va_up f a e') := h
  rw [h'] at hP1 hD1
  exact ⟨L, va_up f a e', mm_of_up hL, hP1, hD1⟩
theorem mm_put (hexec : p.tables.exec = Jvm.exec) (hb : c.code = cc) {own ref C : String} {T : u_T} {N ci index : Nat} {Ts : List Cond} (hts : ∀ w ∈ Ts, w.before args s = true) (hin : ∀ w ∈ u_ws C T N, w ∈ Ts) (ty0 : Nat → FieldType) (hty : ∀ k, k < N → parseFieldDescriptor (T k).2.2.1 = some (ty0 k)) (hnm : ∀ a, a < N → ∀ b, b < N → a ≠ b → (T a).2.1 ≠ (T b).2.1) (hown : s.vm.findClass own = some m.cls) (hK : va_K D cl tys s) (hG : mm D cl A G H) (hS0 : va_S A H0 H locs) {fs : List Value} (ha : G a = some (.inr (ci, fs))) (hc : cl[ci]? = some (C, T, N)) (k : Nat) (hk : k < N) (hlink : (Cond.fieldLink own index ref (T k).2.1 (T k).2.2.1).before args s = true) (hsame : ∀ x, s.fieldFound? (T k).1 (T k).2.1 (T k).2.2.1 = some x → s.fieldFound? ref (T k).2.1 (T k).2.2.1 = some x) (hfin : (T k).2.2.2 = false) {ty : FieldType} {v : Value} (hd : parseFieldDescriptor (T k).2.2.1 = some ty) (hn : narrow ty v = v) (hfit : fits ty v = true) (hl : k < fs.length)
    (hdg : decode cc pc = .ok (.putfield index, 3)) (kk : ∀ (H1 : Heap) (locs1 : List Loc), mm D cl A (mm_set G a (.inr (ci, fs.set k v))) H1 → va_S A H0 H1 locs1 → W p l e R s m args below meth c H1 locs1 cells slots Q (F0 m (pc + 3) ls rest)) : W p l e R s m args below meth c H locs cells slots Q (F0 m pc ls (v :: .ref a :: rest)) := by
  obtain ⟨L, f, rfl, hP, hD⟩ := hG
  obtain ⟨hL, hf⟩ := mm_of_some ha
  obtain ⟨q, hq⟩ := va_pl_get (X := []) (f := f) hL
  have hq' : (va_pl L f)[q]? = some (a, .inr (ci, fs)) := by rw [← hf]; exact hq
  exact va_put hexec hb hts hin ty0 hty hnm hown hK hP hD hS0 q hq' hc k hk hlink hsame hfin hd hn hfit hl hdg (fun H1 locs1 hP1 hD1 hS1 => kk H1 locs1 (mm_wrote hD hL hq hP1 hD1) hS1)
theorem mm_putN (hexec : p.tables.exec = Jvm.exec) (hb : c.code = cc) {own ref C host : String} {T : u_T} {N ci index : Nat} {Ts : List Cond} (hts : ∀ w ∈ Ts, w.before args s = true) (hin : ∀ w ∈ u_ws C T N, w ∈ Ts) (ty0 : Nat → FieldType) (hty : ∀ k, k < N → parseFieldDescriptor (T k).2.2.1 = some (ty0 k)) (hnm : ∀ a, a < N → ∀ b, b < N → a ≠ b → (T a).2.1 ≠ (T b).2.1) (hown : s.vm.findClass own = some m.cls) (hK : va_K D cl tys s) (hG : mm D cl A G H) (hS0 : va_S A H0 H locs) {fs : List Value} (ha : G a = some (.inr (ci, fs))) (hc : cl[ci]? = some (C, T, N)) (k : Nat) (hk : k < N) (hlink : (Cond.fieldLinkNest own index ref (T k).2.1 (T k).2.2.1 host).before args s = true) (hsame : ∀ x, s.fieldFound? (T k).1 (T k).2.1 (T k).2.2.1 = some x → s.fieldFound? ref (T k).2.1 (T k).2.2.1 = some x) (hfin : (T k).2.2.2 = false) {ty : FieldType} {v : Value} (hd : parseFieldDescriptor (T k).2.2.1 = some ty) (hn : narrow ty v = v) (hfit : fits ty v = true) (hl : k < fs.length)
    (hdg : decode cc pc = .ok (.putfield index, 3)) (kk : ∀ (H1 : Heap) (locs1 : List Loc), mm D cl A (mm_set G a (.inr (ci, fs.set k v))) H1 → va_S A H0 H1 locs1 → W p l e R s m args below meth c H1 locs1 cells slots Q (F0 m (pc + 3) ls rest)) : W p l e R s m args below meth c H locs cells slots Q (F0 m pc ls (v :: .ref a :: rest)) := by
  obtain ⟨L, f, rfl, hP, hD⟩ := hG
  obtain ⟨hL, hf⟩ := mm_of_some ha
  obtain ⟨q, hq⟩ := va_pl_get (X := []) (f := f) hL
  have hq' : (va_pl L f)[q]? = some (a, .inr (ci, fs)) := by rw [← hf]; exact hq
  exact va_putN hexec hb hts hin ty0 hty hnm hown hK hP hD hS0 q hq' hc k hk hlink hsame hfin hd hn hfit hl hdg (fun H1 locs1 hP1 hD1 hS1 => kk H1 locs1 (mm_wrote hD hL hq hP1 hD1) hS1)
theorem mm_putF (hexec : p.tables.exec = Jvm.exec) (hb : c.code = cc) {own ref C : String} {T : u_T} {N ci index : Nat} {Ts : List Cond} (hts : ∀ w ∈ Ts, w.before args s = true) (hin : ∀ w ∈ u_ws C T N, w ∈ Ts) (ty0 : Nat → FieldType) (hty : ∀ k, k < N → parseFieldDescriptor (T k).2.2.1 = some (ty0 k)) (hnm : ∀ a, a < N → ∀ b, b < N → a ≠ b → (T a).2.1 ≠ (T b).2.1) (hown : s.vm.findClass own = some m.cls) (hK : va_K D cl tys s) (hG : mm D cl A G H) (hS0 : va_S A H0 H locs) {fs : List Value} (ha : G a = some (.inr (ci, fs))) (hc : cl[ci]? = some (C, T, N)) (k : Nat) (hk : k < N) (hlink : (Cond.fieldLink own index ref (T k).2.1 (T k).2.2.1).before args s = true) (hsame : ∀ x, s.fieldFound? (T k).1 (T k).2.1 (T k).2.2.1 = some x → s.fieldFound? ref (T k).2.1 (T k).2.2.1 = some x) (hfin : (T k).2.2.2 = true) (hin2 : meth.name = "<init>") (hdecl : (T k).1 = own) {ty : FieldType} {v : Value} (hd : parseFieldDescriptor (T k).2.2.1 = some ty) (hn : narrow ty v = v) (hfit : fits ty v = true) (hl : k < fs.length)
    (hdg : decode cc pc = .ok (.putfield index, 3)) (kk : ∀ (H1 : Heap) (locs1 : List Loc), mm D cl A (mm_set G a (.inr (ci, fs.set k v))) H1 → va_S A H0 H1 locs1 → W p l e R s m args below meth c H1 locs1 cells slots Q (F0 m (pc + 3) ls rest)) : W p l e R s m args below meth c H locs cells slots Q (F0 m pc ls (v :: .ref a :: rest)) := by
  obtain ⟨L, f, rfl, hP, hD⟩ := hG
  obtain ⟨hL, hf⟩ := mm_of_some ha
  obtain ⟨q, hq⟩ := va_pl_get (X := []) (f := f) hL
  have hq' : (va_pl L f)[q]? = some (a, .inr (ci, fs)) := by rw [← hf]; exact hq
  exact va_putF hexec hb hts hin ty0 hty hnm hown hK hP hD hS0 q hq' hc k hk hlink hsame hfin hin2 hdecl hd hn hfit hl hdg (fun H1 locs1 hP1 hD1 hS1 => kk H1 locs1 (mm_wrote hD hL hq hP1 hD1) hS1)
theorem mm_iald (hexec : p.tables.exec = Jvm.exec) (hb : c.code = cc) (hK : va_K D cl tys s) (hG : mm D cl A G H) (t0 : Nat) {cA : ClassId} {n : Nat} {f : Nat → Int32} (ha : G a = some (.inl (cA, n, .inl f))) (ht : tys[t0]? = some (cA, .int)) {i : Int32} (hin : vp_in i n) (hdg : decode cc pc = .ok (.iaload, 1))
    (kk : W p l e R s m args below meth c H locs cells slots Q (F0 m (pc + 1) ls (.int (f i.toNatClampNeg) :: rest))) : W p l e R s m args below meth c H locs cells slots Q (F0 m pc ls (.int i :: .ref a :: rest)) :=
  va_iald hexec hb hK (hG.one ha) 0 t0 rfl ht hin hdg kk
theorem mm_bald (hexec : p.tables.exec = Jvm.exec) (hb : c.code = cc) (hK : va_K D cl tys s) (hG : mm D cl A G H) (t0 : Nat) {cA : ClassId} {n : Nat} {f : Nat → Int32} (ha : G a = some (.inl (cA, n, .inl f))) (ht : tys[t0]? = some (cA, .byte)) {i : Int32} (hin : vp_in i n) (hdg : decode cc pc = .ok (.baload, 1))
    (kk : W p l e R s m args below meth c H locs cells slots Q (F0 m (pc + 1) ls (.int (f i.toNatClampNeg) :: rest))) : W p l e R s m args below meth c H locs cells slots Q (F0 m pc ls (.int i :: .ref a :: rest)) :=
  va_bald hexec hb hK (hG.one ha) 0 t0 rfl ht hin hdg kk
theorem mm_zald (hexec : p.tables.exec = Jvm.exec) (hb : c.code = cc) (hK : va_K D cl tys s) (hG : mm D cl A G H) (t0 : Nat) {cA : ClassId} {n : Nat} {f : Nat → Int32} (ha : G a = some (.inl (cA, n, .inl f))) (ht : tys[t0]? = some (cA, .boolean)) {i : Int32} (hin : vp_in i n) (hdg : decode cc pc = .ok (.baload, 1))
    (kk : W p l e R s m args below meth c H locs cells slots Q (F0 m (pc + 1) ls (.int (f i.toNatClampNeg) :: rest))) : W p l e R s m args below meth c H locs cells slots Q (F0 m pc ls (.int i :: .ref a :: rest)) :=
  va_zald hexec hb hK (hG.one ha) 0 t0 rfl ht hin hdg kk
theorem mm_lald (hexec : p.tables.exec = Jvm.exec) (hb : c.code = cc) (hK : va_K D cl tys s) (hG : mm D cl A G H) (t0 : Nat) {cA : ClassId} {n : Nat} {f : Nat → Int64} (ha : G a = some (.inl (cA, n, .inr (.inl f)))) (ht : tys[t0]? = some (cA, .long)) {i : Int32} (hin : vp_in i n) (hdg : decode cc pc = .ok (.laload, 1))
    (kk : W p l e R s m args below meth c H locs cells slots Q (F0 m (pc + 1) ls (.long (f i.toNatClampNeg) :: rest))) : W p l e R s m args below meth c H locs cells slots Q (F0 m pc ls (.int i :: .ref a :: rest)) :=
  va_lald hexec hb hK (hG.one ha) 0 t0 rfl ht hin hdg kk
theorem mm_aald (hexec : p.tables.exec = Jvm.exec) (hb : c.code = cc) (hK : va_K D cl tys s) (hG : mm D cl A G H) (t0 : Nat) {cA : ClassId} {C : String} {n : Nat} {f : Nat → Option Nat} (ha : G a = some (.inl (cA, n, .inr (.inr (.inr (.inr f)))))) (ht : tys[t0]? = some (cA, .object C)) {i : Int32} (hin : vp_in i n) (hdg : decode cc pc = .ok (.aaload, 1))
    (kk : W p l e R s m args below meth c H locs cells slots Q (F0 m (pc + 1) ls (va_rf (f i.toNatClampNeg) :: rest))) : W p l e R s m args below meth c H locs cells slots Q (F0 m pc ls (.int i :: .ref a :: rest)) :=
  va_aldq hexec hb hK (hG.one ha) 0 t0 rfl ht hin hdg kk
theorem mm_alen (hexec : p.tables.exec = Jvm.exec) (hb : c.code = cc) (hK : va_K D cl tys s) (hG : mm D cl A G H) (t0 : Nat) {cA : ClassId} {x : vp_A} (ha : G a = some (.inl (cA, x))) {ty : FieldType} (ht : tys[t0]? = some (cA, ty)) {v : Int32} (hv : Int32.ofNat x.1 = v) (hdg : decode cc pc = .ok (.arraylength, 1))
    (kk : W p l e R s m args below meth c H locs cells slots Q (F0 m (pc + 1) ls (.int v :: rest))) : W p l e R s m args below meth c H locs cells slots Q (F0 m pc ls (.ref a :: rest)) :=
  va_alen hexec hb hK (hG.one ha) 0 t0 rfl ht hv hdg kk
theorem mm_iast (hexec : p.tables.exec = Jvm.exec) (hb : c.code = cc) (hK : va_K D cl tys s) (hG : mm D cl A G H) (hS : va_S A H0 H locs) (t0 : Nat) {cA : ClassId} {n : Nat} {f : Nat → Int32} (ha : G a = some (.inl (cA, n, .inl f))) (ht : tys[t0]? = some (cA, .int)) {i : Int32} {x : Int32} (hin : vp_in i n) (hdg : decode cc pc = .ok (.iastore, 1))
    (kk : ∀ (H1 : Heap) (locs1 : List Loc), mm D cl A (mm_set G a (.inl (cA, n, .inl (upd f i.toNatClampNeg x)))) H1 → va_S A H0 H1 locs1 → W p l e R s m args below meth c H1 locs1 cells slots Q (F0 m (pc + 1) ls rest)) : W p l e R s m args below meth c H locs cells slots Q (F0 m pc ls (.int x :: .int i :: .ref a :: rest)) := by
  obtain ⟨L, g, rfl, hP, hD⟩ := hG
  obtain ⟨hL, hf⟩ := mm_of_some ha
  obtain ⟨q, hq⟩ := va_pl_get (X := []) (f := g) hL
  exact va_iast hexec hb hK hP hD hS q t0 (by rw [← hf]; exact hq) ht hin hdg (fun H1 locs1 hP1 hD1 hS1 => kk H1 locs1 (mm_wrote hD hL hq hP1 hD1) hS1)
theorem mm_bast (hexec : p.tables.exec = Jvm.exec) (hb : c.code = cc) (hK : va_K D cl tys s) (hG : mm D cl A G H) (hS : va_S A H0 H locs) (t0 : Nat) {cA : ClassId} {n : Nat} {f : Nat → Int32} (ha : G a = some (.inl (cA, n, .inl f))) (ht : tys[t0]? = some (cA, .byte)) {i : Int32} {x : Int32} (hin : vp_in i n) (hdg : decode cc pc = .ok (.bastore, 1))
    (kk : ∀ (H1 : Heap) (locs1 : List Loc), mm D cl A (mm_set G a (.inl (cA, n, .inl (upd f i.toNatClampNeg (vp_nar .byte x))))) H1 → va_S A H0 H1 locs1 → W p l e R s m args below meth c H1 locs1 cells slots Q (F0 m (pc + 1) ls rest)) : W p l e R s m args below meth c H locs cells slots Q (F0 m pc ls (.int x :: .int i :: .ref a :: rest)) := by
  obtain ⟨L, g, rfl, hP, hD⟩ := hG
  obtain ⟨hL, hf⟩ := mm_of_some ha
  obtain ⟨q, hq⟩ := va_pl_get (X := []) (f := g) hL
  exact va_bast hexec hb hK hP hD hS q t0 (by rw [← hf]; exact hq) ht hin hdg (fun H1 locs1 hP1 hD1 hS1 => kk H1 locs1 (mm_wrote hD hL hq hP1 hD1) hS1)
theorem mm_zast (hexec : p.tables.exec = Jvm.exec) (hb : c.code = cc) (hK : va_K D cl tys s) (hG : mm D cl A G H) (hS : va_S A H0 H locs) (t0 : Nat) {cA : ClassId} {n : Nat} {f : Nat → Int32} (ha : G a = some (.inl (cA, n, .inl f))) (ht : tys[t0]? = some (cA, .boolean)) {i : Int32} {x : Int32} (hin : vp_in i n) (hdg : decode cc pc = .ok (.bastore, 1))
    (kk : ∀ (H1 : Heap) (locs1 : List Loc), mm D cl A (mm_set G a (.inl (cA, n, .inl (upd f i.toNatClampNeg (vp_nar .boolean x))))) H1 → va_S A H0 H1 locs1 → W p l e R s m args below meth c H1 locs1 cells slots Q (F0 m (pc + 1) ls rest)) : W p l e R s m args below meth c H locs cells slots Q (F0 m pc ls (.int x :: .int i :: .ref a :: rest)) := by
  obtain ⟨L, g, rfl, hP, hD⟩ := hG
  obtain ⟨hL, hf⟩ := mm_of_some ha
  obtain ⟨q, hq⟩ := va_pl_get (X := []) (f := g) hL
  exact va_zast hexec hb hK hP hD hS q t0 (by rw [← hf]; exact hq) ht hin hdg (fun H1 locs1 hP1 hD1 hS1 => kk H1 locs1 (mm_wrote hD hL hq hP1 hD1) hS1)
theorem mm_last (hexec : p.tables.exec = Jvm.exec) (hb : c.code = cc) (hK : va_K D cl tys s) (hG : mm D cl A G H) (hS : va_S A H0 H locs) (t0 : Nat) {cA : ClassId} {n : Nat} {f : Nat → Int64} (ha : G a = some (.inl (cA, n, .inr (.inl f)))) (ht : tys[t0]? = some (cA, .long)) {i : Int32} {x : Int64} (hin : vp_in i n) (hdg : decode cc pc = .ok (.lastore, 1))
    (kk : ∀ (H1 : Heap) (locs1 : List Loc), mm D cl A (mm_set G a (.inl (cA, n, .inr (.inl (vp_updL f i.toNatClampNeg x))))) H1 → va_S A H0 H1 locs1 → W p l e R s m args below meth c H1 locs1 cells slots Q (F0 m (pc + 1) ls rest)) : W p l e R s m args below meth c H locs cells slots Q (F0 m pc ls (.long x :: .int i :: .ref a :: rest)) := by
  obtain ⟨L, g, rfl, hP, hD⟩ := hG
  obtain ⟨hL, hf⟩ := mm_of_some ha
  obtain ⟨q, hq⟩ := va_pl_get (X := []) (f := g) hL
  exact va_last hexec hb hK hP hD hS q t0 (by rw [← hf]; exact hq) ht hin hdg (fun H1 locs1 hP1 hD1 hS1 => kk H1 locs1 (mm_wrote hD hL hq hP1 hD1) hS1)
/-- an object of a class stored into an array of that class -/
theorem mm_aast (hexec : p.tables.exec = Jvm.exec) (hb : c.code = cc) (hK : va_K D cl tys s) (hG : mm D cl A G H) (hS : va_S A H0 H locs) (t0 ci : Nat) {cA : ClassId} {r : vw_C} {n v : Nat} {vs : List Value} {f : Nat → Option Nat} (ha : G a = some (.inl (cA, n, .inr (.inr (.inr (.inr f)))))) (ht : tys[t0]? = some (cA, .object r.1)) (hv : G v = some (.inr (ci, vs))) (hc : cl[ci]? = some r) {i : Int32} (hin : vp_in i n) (hdg : decode cc pc = .ok (.aastore, 1))
    (kk : ∀ (H1 : Heap) (locs1 : List Loc), mm D cl A (mm_set G a (.inl (cA, n, .inr (.inr (.inr (.inr (va_up f i.toNatClampNeg (some v)))))))) H1 → va_S A H0 H1 locs1 → W p l e R s m args below meth c H1 locs1 cells slots Q (F0 m (pc + 1) ls rest)) : W p l e R s m args below meth c H locs cells slots Q (F0 m pc ls (.ref v :: .int i :: .ref a :: rest)) := by
  obtain ⟨L, g, rfl, hP, hD⟩ := hG
  obtain ⟨hL, hf⟩ := mm_of_some ha
  obtain ⟨hL2, hf2⟩ := mm_of_some hv
  obtain ⟨q, hq⟩ := va_pl_get (X := []) (f := g) hL
  obtain ⟨q2, hq2⟩ := va_pl_get (X := []) (f := g) hL2
  exact va_astq hexec hb hK hP hD hS q t0 q2 ci (by rw [← hf]; exact hq) ht (by rw [← hf2]; exact hq2) hc hin hdg (fun H1 locs1 hP1 hD1 hS1 => kk H1 locs1 (mm_wrote hD hL hq hP1 hD1) hS1)
/-- an object of a class stored into an array of a wider one -/
theorem mm_aastO (hexec : p.tables.exec = Jvm.exec) (hb : c.code = cc) (hK : va_K D cl tys s) (hG : mm D cl A G H) (hS : va_S A H0 H locs) (t0 ci : Nat) {E : String} {cA : ClassId} {r : vw_C} {n v : Nat} {vs : List Value} {f : Nat → Option Nat} (ha : G a = some (.inl (cA, n, .inr (.inr (.inr (.inr f)))))) (ht : tys[t0]? = some (cA, .object E)) (hca : va_Nw (.castable r.1 E) s) (hv : G v = some (.inr (ci, vs))) (hc : cl[ci]? = some r) {i : Int32} (hin : vp_in i n) (hdg : decode cc pc = .ok (.aastore, 1))
    (kk : ∀ (H1 : Heap) (locs1 : List Loc), mm D cl A (mm_set G a (.inl (cA, n, .inr (.inr (.inr (.inr (va_up f i.toNatClampNeg (some v)))))))) H1 → va_S A H0 H1 locs1 → W p l e R s m args below meth c H1 locs1 cells slots Q (F0 m (pc + 1) ls rest)) : W p l e R s m args below meth c H locs cells slots Q (F0 m pc ls (.ref v :: .int i :: .ref a :: rest)) := by
  obtain ⟨L, g, rfl, hP, hD⟩ := hG
  obtain ⟨hL, hf⟩ := mm_of_some ha
  obtain ⟨hL2, hf2⟩ := mm_of_some hv
  obtain ⟨q, hq⟩ := va_pl_get (X := []) (f := g) hL
  obtain ⟨q2, hq2⟩ := va_pl_get (X := []) (f := g) hL2
  exact va_astqO hexec hb hK hP hD hS q t0 q2 ci (by rw [← hf]; exact hq) ht hca (by rw [← hf2]; exact hq2) hc hin hdg (fun H1 locs1 hP1 hD1 hS1 => kk H1 locs1 (mm_wrote hD hL hq hP1 hD1) hS1)
/-- a new cell: the memory behind it -/
theorem mm_made {L : List Nat} {f : Nat → va_E} {q : Nat} {e' : va_E} {H1 : Heap} (hP1 : va_P D cl (va_pl L f ++ [(q, e')]) H1) (hD1 : va_D A (va_pl L f ++ [(q, e')])) : mm_of L f q = none ∧ mm D cl A (mm_set (mm_of L f) q e') H1 := by
  have hq : q ∉ L := va_pl_fresh2 (X := []) (f := f) hD1
  have h := va_pl_push (f := f) (e := e') hq
  rw [h] at hP1 hD1
  exact ⟨by simp [mm_of, hq], L ++ [q], va_up f q e', mm_of_push, hP1, hD1⟩
theorem mm_new {c0 : Code} (hexec : p.tables.exec = Jvm.exec) (hb : c0.code = cc) {own C : String} {T : u_T} {N ci index : Nat} {Ts : List Cond} (hts : ∀ w ∈ Ts, w.before args s = true) (hin : ∀ w ∈ u_ws C T N, w ∈ Ts) (ty : Nat → FieldType) (hty : ∀ k, k < N → parseFieldDescriptor (T k).2.2.1 = some (ty k)) (hown : s.vm.findClass own = some m.cls) (hcl : (Cond.classLink own index C).before args s = true) (hinst : (Cond.instantiable C N).before args s = true) (hini : (Cond.initialized C).before args s = true)
    (hK : va_K D cl tys s) (hG : mm D cl A G H) (hS : va_S A H0 H locs) (hA : ∀ q : Nat, H0.size ≤ q → A q) (hc : cl[ci]? = some (C, T, N)) {fs : List Value} (hfs : ∀ j, j < N → defaultValue (ty j) = vp_V fs j) (hcells : cells + 1 ≤ R.cells) (hslots : slots + N ≤ R.slots) (hdg : decode cc pc = .ok (.new index, 3))
    (kk : ∀ (q : Nat) (H1 : Heap), G q = none → mm D cl A (mm_set G q (.inr (ci, fs))) H1 → va_S A H0 H1 locs →
      W p l e R s m args below meth c0 H1 locs (cells + 1) (slots + N) Q (F0 m (pc + 3) ls (.ref q :: rest))) : W p l e R s m args below meth c0 H locs cells slots Q (F0 m pc ls rest) := by
  obtain ⟨L, g, rfl, hP, hD⟩ := hG
  exact va_new hexec hb hts hin ty hty hown hcl hinst hini hK hP hD hS hA hc hfs hcells hslots hdg (fun q H1 hP1 hD1 hS1 => kk q H1 (mm_made hP1 hD1).1 (mm_made hP1 hD1).2 hS1)
theorem mm_newa (hexec : p.tables.exec = Jvm.exec) (hb : c.code = cc) {atype : ArrayType} (harr : (Cond.arrayClass (newarray.typeOf atype)).before args s = true) {ty : FieldType} (hty : newarray.typeOf atype = ty) (hK : va_K D cl tys s) (hG : mm D cl A G H) (hS : va_S A H0 H locs) (hA : ∀ q : Nat, H0.size ≤ q → A q) (t0 : Nat) {cY : ClassId} (ht : tys[t0]? = some (cY, ty))
    {n : Int32} {N' : Nat} {a0 : vp_A} (ha : ∀ cA : ClassId, vp_cell cA a0 = arrV cA N' (fun _ => defaultValue ty)) (hn : ¬ n < 0) (hN : n.toNatClampNeg = N') (hbytes : N' * componentBytes ty ≤ 536870912) (hcells : cells + 1 ≤ R.cells) (hslots : slots + N' ≤ R.slots) (hdg : decode cc pc = .ok (.newarray atype, 2))
    (kk : ∀ (q : Nat) (H1 : Heap), G q = none → mm D cl A (mm_set G q (.inl (cY, a0))) H1 → va_S A H0 H1 locs →
      W p l e R s m args below meth c H1 locs (cells + 1) (slots + N') Q (F0 m (pc + 2) ls (.ref q :: rest))) : W p l e R s m args below meth c H locs cells slots Q (F0 m pc ls (.int n :: rest)) := by
  obtain ⟨L, g, rfl, hP, hD⟩ := hG
  refine va_newa hexec hb harr hty hK hP hD hS hA ha hn hN hbytes hcells hslots hdg (fun q cA H1 hK1 hP1 hD1 hS1 => ?_)
  have hcA : cA = cY := mm_RA (hK1.2 tys.length (cA, ty) (by simp)).2 (hK.2 t0 _ ht).2
  subst hcA
  exact kk q H1 (mm_made hP1 hD1).1 (mm_made hP1 hD1).2 hS1
theorem mm_newq (hexec : p.tables.exec = Jvm.exec) (hb : c.code = cc) {own C : String} {index : Nat} (hown : s.vm.findClass own = some m.cls) (hclink : (Cond.classLink own index C).before args s = true) (hover : va_AO C s) (hK : va_K D cl tys s) (hG : mm D cl A G H) (hS : va_S A H0 H locs) (hA : ∀ q : Nat, H0.size ≤ q → A q) (t0 : Nat) {cY : ClassId} (ht : tys[t0]? = some (cY, .object C))
    {n : Int32} {N' : Nat} (hn : ¬ n < 0) (hN : n.toNatClampNeg = N') (hbytes : N' * 4 ≤ 536870912) (hcells : cells + 1 ≤ R.cells) (hslots : slots + N' ≤ R.slots) (hdg : decode cc pc = .ok (.anewarray index, 3))
    (kk : ∀ (q : Nat) (H1 : Heap), G q = none → mm D cl A (mm_set G q (.inl (cY, N', .inr (.inr (.inr (.inr (fun _ => none))))))) H1 → va_S A H0 H1 locs →
      W p l e R s m args below meth c H1 locs (cells + 1) (slots + N') Q (F0 m (pc + 3) ls (.ref q :: rest))) : W p l e R s m args below meth c H locs cells slots Q (F0 m pc ls (.int n :: rest)) := by
  obtain ⟨L, g, rfl, hP, hD⟩ := hG
  refine va_newq hexec hb hown hclink hover hK hP hD hS hA hn hN hbytes hcells hslots hdg (fun q cA H1 hK1 hP1 hD1 hS1 => ?_)
  have hcA : cA = cY := mm_RA (hK1.2 tys.length (cA, .object C) (by simp)).2 (hK.2 t0 _ ht).2
  subst hcA
  exact kk q H1 (mm_made hP1 hD1).1 (mm_made hP1 hD1).2 hS1
end MMW
end
section
/-! ===== THE TABLES' WORDS, as facts of a state that stand still: a contract's own list is its code alone ===== -/
def tb_ok (w : Cond) : Bool := match w with
  | .fieldLinkNest _ _ _ _ _ _ => true
  | .methodLinkNest _ _ _ _ => true
  | .castable _ _ => true
  | .declares _ => true
  | .arrayOver (.object _) => true
  | w => goodWord w
theorem tb_warm {w : Cond} {s U : State} (h : tb_ok w = true) (hW : s.WarmedH U.vm) (hZ : va_Nw w s) : va_Nw w U := by
  unfold tb_ok at h
  split at h
  · exact va_Nw.warmF hW hZ
  · exact va_Nw.warmM hW hZ
  · exact va_Nw.warmC hW hZ
  · exact va_Nw.warmD hW hZ
  · exact va_AO.moved hW.alike hZ
  · exact word_at (args := #[]) hW (good_of_word h) hZ
def TB (U : State) : Prop := ∀ w ∈ lw_tbl, tb_ok w = true → va_Nw w U
theorem TB_warm {s U : State} (hW : s.WarmedH U.vm) (h : TB s) : TB U := fun w hw ok => tb_warm ok hW (h w hw ok)
theorem tb_use {w : Cond} {s : State} {args : Array Value} (hT : TB s) (h : w ∈ lw_tbl) (ok : (tb_ok w && w.onTables) = true := by first | rfl | decide +kernel) : w.before args s = true := by
  rw [Bool.and_eq_true] at ok
  exact va_Nw.use ok.2 (hT w h ok.1)
theorem tb_list {ws : List Cond} {s : State} {args : Array Value} (hT : TB s) (h : ∀ w ∈ ws, w ∈ lw_tbl ∧ (tb_ok w && w.onTables) = true) : ∀ w ∈ ws, w.before args s = true := fun w hw => tb_use hT (h w hw).1 (h w hw).2
section TBC
variable {R : Room} {s : State} {args : Array Value} {own : String} {index : Nat} {y : MethodName} {bytes : ByteArray} {maxL : Nat} {ret : Option FieldType} {rm : Room} {mc ms : Nat}
theorem tb_code (hT : TB s) (h1 : Cond.code y bytes maxL ret ∈ lw_tbl) : ∀ w ∈ [Cond.code y bytes maxL ret], ∀ (a' : Array Value) (U : State), s.WarmedH U.vm → w.before a' U = true := by
  intro w hw a' U hW
  rw [List.mem_singleton.mp hw]
  exact tb_use (TB_warm hW hT) h1 rfl
theorem tb_cb (n : Nat) (hT : TB s) (h1 : Cond.code y bytes maxL ret ∈ lw_tbl) (h2 : Cond.initialized y.cls ∈ lw_tbl) (h3 : Cond.methodLink own index y ∈ lw_tbl) (hrc : rm.cells = mc) (hrs : rm.slots = ms)
    (hd : y.cls ≠ "java/lang/invoke/MethodHandle" ∧ y.cls ≠ "java/lang/invoke/VarHandle" ∧ (parseMethodDescriptor y.desc).map (fun d => d.parameters.length) = some n) (hR : rm.frames + 1 ≤ R.frames ∧ 8 + (maxL + 11) + rm.locals ≤ R.locals) :
    CallB R s args own index y bytes maxL ret [Cond.code y bytes maxL ret] rm mc ms n := by
  refine ⟨hrc, hrs, hR.1, hR.2, tb_code hT h1, List.mem_singleton.mpr rfl, tb_use hT h1 rfl, tb_use hT h2 rfl, ⟨hd.1, hd.2.1⟩, fun sig h => ?_, tb_use hT h3 rfl⟩
  have h2 := hd.2.2
  rw [h] at h2
  exact (Option.some.inj h2).symm
/-- a method of one's own class or a visible one -/
theorem tb_cw {C : String} (n : Nat) (hT : TB s) (h1 : Cond.code y bytes maxL ret ∈ lw_tbl) (h2 : Cond.initialized y.cls ∈ lw_tbl) (h3 : Cond.methodLink own index y ∈ lw_tbl) (h4 : Cond.instanceMethod y ∈ lw_tbl) (h5 : Cond.selects C y y ∈ lw_tbl) (hrc : rm.cells = mc) (hrs : rm.slots = ms)
    (hd : y.cls ≠ "java/lang/invoke/MethodHandle" ∧ y.cls ≠ "java/lang/invoke/VarHandle" ∧ (parseMethodDescriptor y.desc).map (fun d => d.parameters.length) = some n) (hR : rm.frames + 1 ≤ R.frames ∧ 8 + (maxL + 11) + rm.locals ≤ R.locals) :
    CallW R s args own C index y bytes maxL ret [Cond.code y bytes maxL ret] rm mc ms n := ⟨tb_cb n hT h1 h2 h3 hrc hrs hd hR, tb_use hT h4 rfl, tb_use hT h5 rfl⟩
theorem tb_cs (n : Nat) (hT : TB s) (h1 : Cond.code y bytes maxL ret ∈ lw_tbl) (h2 : Cond.initialized y.cls ∈ lw_tbl) (h3 : Cond.methodLink own index y ∈ lw_tbl) (h4 : Cond.static y ∈ lw_tbl) (hrc : rm.cells = mc) (hrs : rm.slots = ms)
    (hd : y.cls ≠ "java/lang/invoke/MethodHandle" ∧ y.cls ≠ "java/lang/invoke/VarHandle" ∧ (parseMethodDescriptor y.desc).map (fun d => d.parameters.length) = some n) (hR : rm.frames + 1 ≤ R.frames ∧ 8 + (maxL + 11) + rm.locals ≤ R.locals) :
    CallB R s args own index y bytes maxL ret [Cond.code y bytes maxL ret] rm mc ms n ∧ (Cond.static y).before args s = true := ⟨tb_cb n hT h1 h2 h3 hrc hrs hd hR, tb_use hT h4 rfl⟩
theorem tb_ci (n : Nat) (hT : TB s) (h1 : Cond.code y bytes maxL none ∈ lw_tbl) (h2 : Cond.initialized y.cls ∈ lw_tbl) (h3 : Cond.methodLink own index y ∈ lw_tbl) (h4 : Cond.instanceMethod y ∈ lw_tbl) (hy1 : y.name = "<init>") (hrc : rm.cells = mc) (hrs : rm.slots = ms)
    (hd : y.cls ≠ "java/lang/invoke/MethodHandle" ∧ y.cls ≠ "java/lang/invoke/VarHandle" ∧ (parseMethodDescriptor y.desc).map (fun d => d.parameters.length) = some n) (hR : rm.frames + 1 ≤ R.frames ∧ 8 + (maxL + 11) + rm.locals ≤ R.locals) :
    CallB R s args own index y bytes maxL none [Cond.code y bytes maxL none] rm mc ms n ∧ y.name = "<init>" ∧ (Cond.instanceMethod y).before args s = true := ⟨tb_cb n hT h1 h2 h3 hrc hrs hd hR, hy1, tb_use hT h4 rfl⟩
/-- a nest mate's -/
theorem tb_cn {host : String} (n : Nat) (hT : TB s) (h1 : Cond.code y bytes maxL ret ∈ lw_tbl) (h2 : Cond.initialized y.cls ∈ lw_tbl) (h3 : Cond.methodLinkNest own index y host ∈ lw_tbl) (hrc : rm.cells = mc) (hrs : rm.slots = ms)
    (hd : y.cls ≠ "java/lang/invoke/MethodHandle" ∧ y.cls ≠ "java/lang/invoke/VarHandle" ∧ (parseMethodDescriptor y.desc).map (fun d => d.parameters.length) = some n) (hR : rm.frames + 1 ≤ R.frames ∧ 8 + (maxL + 11) + rm.locals ≤ R.locals) :
    va_CN R s args own index y host bytes maxL ret [Cond.code y bytes maxL ret] rm mc ms n := by
  refine ⟨⟨hrc, hrs, hR.1, hR.2, tb_code hT h1, List.mem_singleton.mpr rfl⟩, tb_use hT h1 rfl, tb_use hT h2 rfl, ⟨hd.1, hd.2.1⟩, fun sig h => ?_, tb_use hT h3 rfl⟩
  have h2 := hd.2.2
  rw [h] at h2
  exact (Option.some.inj h2).symm
end TBC
end
section
/-! ===== arrays' classes; addresses that differ by what stands there ===== -/
abbrev tyL (cy : Nat → ClassId) : List (ClassId × FieldType) := [(cy 0, .byte), (cy 1, .int), (cy 2, .long), (cy 3, .boolean), (cy 4, .object "java/lang/Object"), (cy 5, .object "DescribeText$Token"), (cy 6, .object "DescribeText$Edition")]
section MNE
variable {G : Nat → Option va_E} {a b : Nat}
theorem mm_ne_e {e1 e2 : va_E} (h1 : G a = some e1) (h2 : G b = some e2) (h : e1 ≠ e2) : a ≠ b := fun z => by
  subst z
  rw [h1] at h2
  exact h (Option.some.inj h2)
theorem mm_ne_oo {i j : Nat} {fs gs : List Value} (h1 : G a = some (.inr (i, fs))) (h2 : G b = some (.inr (j, gs))) (h : i ≠ j) : a ≠ b := mm_ne_e h1 h2 (fun z => h (Prod.mk.inj (Sum.inr.inj z)).1)
theorem mm_ne_oa {o : Nat × List Value} {x : ClassId × vp_A} (h1 : G a = some (.inr o)) (h2 : G b = some (.inl x)) : a ≠ b := mm_ne_e h1 h2 (fun z => by cases z)
theorem mm_ne_ao {o : Nat × List Value} {x : ClassId × vp_A} (h1 : G a = some (.inl x)) (h2 : G b = some (.inr o)) : a ≠ b := mm_ne_e h1 h2 (fun z => by cases z)
theorem mm_ne_ij {c1 c2 : ClassId} {n1 n2 : Nat} {f : Nat → Int32} {g : Nat → Int64} (h1 : G a = some (.inl (c1, n1, .inl f))) (h2 : G b = some (.inl (c2, n2, .inr (.inl g)))) : a ≠ b := mm_ne_e h1 h2 (fun z => by cases z)
theorem mm_ne_ji {c1 c2 : ClassId} {n1 n2 : Nat} {f : Nat → Int32} {g : Nat → Int64} (h1 : G a = some (.inl (c1, n1, .inr (.inl g)))) (h2 : G b = some (.inl (c2, n2, .inl f))) : a ≠ b := mm_ne_e h1 h2 (fun z => by cases z)
end MNE
theorem mk_end {D : va_G} {cl : List vw_C} {A : Nat → Prop} {G : Nat → Option va_E} {H : Heap} {t : State} (hG : mm D cl A G H) (ht : t.heap = H) : mk_B D cl A G t := by
  show mm D cl A G t.heap
  rw [ht]
  exact hG
theorem vp_in_lt {x m : Int32} {n : Nat} (h0 : ¬ x < 0) (h : x < m) (hm : m.toInt = n) : vp_in x n := by
  refine vp_in_iff.mpr ⟨?_, ?_⟩
  · have h1 := Int32.not_lt.mp h0
    exact Int32.le_iff_toInt_le.mp h1
  · have h2 := Int32.lt_iff_toInt_lt.mp h
    omega
theorem vp_in_ge {x m : Int32} {n : Nat} (h0 : ¬ x < 0) (h : ¬ m ≤ x) (hm : m.toInt = n) : vp_in x n := vp_in_lt h0 (Int32.not_le.mp h) hm
theorem tb_arr {ty : FieldType} {s : State} {args : Array Value} (hT : TB s) (h : Cond.arrayClass ty ∈ lw_tbl) : (Cond.arrayClass ty).before args s = true := hT _ h rfl
theorem mm_ne_n {G : Nat → Option va_E} {a b : Nat} {c1 c2 : ClassId} {n1 n2 : Nat} {x y : (Nat → Int32) ⊕ (Nat → Int64) ⊕ (Nat → UInt32) ⊕ (Nat → UInt64) ⊕ (Nat → Option Nat)} (h1 : G a = some (.inl (c1, n1, x))) (h2 : G b = some (.inl (c2, n2, y))) (h : n1 ≠ n2) : a ≠ b := mm_ne_e h1 h2 (fun z => h (Prod.mk.inj (Prod.mk.inj (Sum.inl.inj z)).2).1)
theorem mm_ne_new {G : Nat → Option va_E} {b q : Nat} {e : va_E} (h : G b = some e) (hn : G q = none) : b ≠ q := fun z => by
  subst z
  rw [hn] at h
  cases h
end
section
def RX1 : String := "DescribeText$Coding"
def TX1 : u_T := fun k => match k with
  | 0 => ("DescribeText$Coding", "number", "I", true)
  | 1 => ("DescribeText$Coding", "at", "I", true)
  | 2 => ("DescribeText$Coding", "name", "J", true)
  | 3 => ("DescribeText$Coding", "rows", "Ljava/util/ArrayList;", true)
  | 4 => ("DescribeText$Coding", "width", "I", false)
  | 5 => ("DescribeText$Coding", "signed", "Z", false)
  | 6 => ("DescribeText$Coding", "scaled", "Z", false)
  | 7 => ("DescribeText$Coding", "times", "J", false)
  | 8 => ("DescribeText$Coding", "over", "J", false)
  | _ => ("DescribeText$Coding", "plus", "J", false)
def RX2 : String := "DescribeText$Edition"
def TX2 : u_T := fun k => match k with
  | 0 => ("DescribeText$Edition", "codings", "Ljava/util/ArrayList;", true)
  | 1 => ("DescribeText$Edition", "layers", "Ljava/util/ArrayList;", true)
  | 2 => ("DescribeText$Edition", "services", "Ljava/util/ArrayList;", true)
  | 3 => ("DescribeText$Edition", "codes", "Ljava/util/ArrayList;", true)
  | 4 => ("DescribeText$Edition", "variants", "Ljava/util/ArrayList;", true)
  | 5 => ("DescribeText$Edition", "jobs", "Ljava/util/ArrayList;", true)
  | 6 => ("DescribeText$Edition", "names", "[J", false)
  | 7 => ("DescribeText$Edition", "nameCount", "I", false)
  | 8 => ("DescribeText$Edition", "inUse", "LDescribeText$Layer;", false)
  | 9 => ("DescribeText$Edition", "wrongAt", "I", false)
  | _ => ("DescribeText$Edition", "ringStart", "LDescribeText$Layer;", false)
def RX3 : String := "DescribeText$Entry"
def TX3 : u_T := fun k => match k with
  | 0 => ("DescribeText$Entry", "z", "I", false)
  | 1 => ("DescribeText$Entry", "zAt", "I", false)
  | 2 => ("DescribeText$Entry", "name", "J", false)
  | 3 => ("DescribeText$Entry", "nameAt", "I", false)
  | _ => ("DescribeText$Entry", "layer", "LDescribeText$Layer;", false)
def RX4 : String := "DescribeText$Job"
def TX4 : u_T := fun k => match k with
  | 0 => ("DescribeText$Job", "at", "I", true)
  | 1 => ("DescribeText$Job", "name", "J", true)
  | 2 => ("DescribeText$Job", "ops", "Ljava/util/ArrayList;", true)
  | 3 => ("DescribeText$Job", "pile", "[J", true)
  | _ => ("DescribeText$Job", "height", "I", false)
def RX5 : String := "DescribeText$Layer"
def TX5 : u_T := fun k => match k with
  | 0 => ("DescribeText$Layer", "number", "I", true)
  | 1 => ("DescribeText$Layer", "at", "I", true)
  | 2 => ("DescribeText$Layer", "name", "J", true)
  | 3 => ("DescribeText$Layer", "ofName", "J", false)
  | 4 => ("DescribeText$Layer", "ofAt", "I", false)
  | _ => ("DescribeText$Layer", "of", "LDescribeText$Layer;", false)
def RX6 : String := "DescribeText$Octets"
def TX6 : u_T := fun k => match k with
  | 0 => ("DescribeText$Octets", "row", "[B", true)
  | _ => ("DescribeText$Octets", "length", "I", false)
def tyX6 : Nat → FieldType := fun k => match k with
  | 0 => .array .byte
  | _ => .int
theorem nmX6 : ∀ a, a < 2 → ∀ b, b < 2 → a ≠ b → (TX6 a).2.1 ≠ (TX6 b).2.1 := by decide +kernel
theorem tyX6_ok : ∀ k, k < 2 → parseFieldDescriptor (TX6 k).2.2.1 = some (tyX6 k) := by decide +kernel
abbrev cX6_init : ByteArray := prog_8_method_1_code
def yX6_init : MethodName := ⟨RX6, "<init>", "()V"⟩
abbrev cX6_add : ByteArray := prog_8_method_2_code
def yX6_add : MethodName := ⟨RX6, "add", "(I)V"⟩
abbrev cX6_at : ByteArray := prog_8_method_3_code
def yX6_at : MethodName := ⟨RX6, "at", "(I)I"⟩
def RX7 : String := "DescribeText$Op"
def TX7 : u_T := fun k => match k with
  | 0 => ("DescribeText$Op", "kind", "LDescribeText$Token;", true)
  | 1 => ("DescribeText$Op", "number", "J", false)
  | 2 => ("DescribeText$Op", "serviceName", "J", false)
  | 3 => ("DescribeText$Op", "serviceAt", "I", false)
  | 4 => ("DescribeText$Op", "from", "LDescribeText$Service;", false)
  | 5 => ("DescribeText$Op", "parameterName", "J", false)
  | 6 => ("DescribeText$Op", "parameterAt", "I", false)
  | 7 => ("DescribeText$Op", "what", "LDescribeText$Parameter;", false)
  | _ => ("DescribeText$Op", "target", "I", false)
def RX8 : String := "DescribeText$Parameter"
def TX8 : u_T := fun k => match k with
  | 0 => ("DescribeText$Parameter", "number", "I", true)
  | 1 => ("DescribeText$Parameter", "at", "I", true)
  | 2 => ("DescribeText$Parameter", "name", "J", true)
  | 3 => ("DescribeText$Parameter", "codingName", "J", false)
  | 4 => ("DescribeText$Parameter", "codingAt", "I", false)
  | 5 => ("DescribeText$Parameter", "coding", "LDescribeText$Coding;", false)
  | 6 => ("DescribeText$Parameter", "kind", "I", false)
  | 7 => ("DescribeText$Parameter", "earlierName", "J", false)
  | 8 => ("DescribeText$Parameter", "earlierAt", "I", false)
  | 9 => ("DescribeText$Parameter", "earlier", "LDescribeText$Parameter;", false)
  | 10 => ("DescribeText$Parameter", "z", "I", false)
  | 11 => ("DescribeText$Parameter", "place", "I", false)
  | 12 => ("DescribeText$Parameter", "size", "I", false)
  | 13 => ("DescribeText$Parameter", "raw", "J", false)
  | _ => ("DescribeText$Parameter", "remembered", "J", false)
def RX9 : String := "DescribeText$Reader"
def TX9 : u_T := fun k => match k with
  | 0 => ("DescribeText$Reader", "tokens", "LDescribeText$Tokens;", true)
  | 1 => ("DescribeText$Reader", "openWhiles", "[I", true)
  | 2 => ("DescribeText$Reader", "edition", "LDescribeText$Edition;", false)
  | 3 => ("DescribeText$Reader", "place", "I", false)
  | _ => ("DescribeText$Reader", "faultAt", "I", false)
def tyX9 : Nat → FieldType := fun k => match k with
  | 0 => .object "DescribeText$Tokens"
  | 1 => .array .int
  | 2 => .object "DescribeText$Edition"
  | 3 => .int
  | _ => .int
theorem nmX9 : ∀ a, a < 5 → ∀ b, b < 5 → a ≠ b → (TX9 a).2.1 ≠ (TX9 b).2.1 := by decide +kernel
theorem tyX9_ok : ∀ k, k < 5 → parseFieldDescriptor (TX9 k).2.2.1 = some (tyX9 k) := by decide +kernel
abbrev cX9_init : ByteArray := prog_11_method_1_code
def yX9_init : MethodName := ⟨RX9, "<init>", "()V"⟩
def RX10 : String := "DescribeText$Service"
def TX10 : u_T := fun k => match k with
  | 0 => ("DescribeText$Service", "number", "I", true)
  | 1 => ("DescribeText$Service", "layer", "LDescribeText$Layer;", true)
  | 2 => ("DescribeText$Service", "at", "I", true)
  | 3 => ("DescribeText$Service", "name", "J", true)
  | 4 => ("DescribeText$Service", "parameters", "Ljava/util/ArrayList;", true)
  | _ => ("DescribeText$Service", "z", "I", false)
def RX11 : String := "DescribeText$Token"
def TX11 : u_T := fun k => match k with
  | _ => ("", "", "", false)
def RX12 : String := "DescribeText$Tokens"
def TX12 : u_T := fun k => match k with
  | 0 => ("DescribeText$Tokens", "kinds", "[LDescribeText$Token;", true)
  | 1 => ("DescribeText$Tokens", "starts", "[I", true)
  | 2 => ("DescribeText$Tokens", "values", "[J", true)
  | _ => ("DescribeText$Tokens", "count", "I", false)
def tyX12 : Nat → FieldType := fun k => match k with
  | 0 => .array (.object "DescribeText$Token")
  | 1 => .array .int
  | 2 => .array .long
  | _ => .int
theorem nmX12 : ∀ a, a < 4 → ∀ b, b < 4 → a ≠ b → (TX12 a).2.1 ≠ (TX12 b).2.1 := by decide +kernel
theorem tyX12_ok : ∀ k, k < 4 → parseFieldDescriptor (TX12 k).2.2.1 = some (tyX12 k) := by decide +kernel
abbrev cX12_init : ByteArray := prog_14_method_1_code
def yX12_init : MethodName := ⟨RX12, "<init>", "()V"⟩
def RX13 : String := "DescribeText"
def TX13 : u_T := fun k => match k with
  | 0 => ("DescribeText", "text", "[B", true)
  | 1 => ("DescribeText", "reader", "LDescribeText$Reader;", true)
  | 2 => ("DescribeText", "told", "LDescribeText$Octets;", true)
  | 3 => ("DescribeText", "sent", "LDescribeText$Octets;", true)
  | 4 => ("DescribeText", "kept", "[LDescribeText$Edition;", true)
  | 5 => ("DescribeText", "textLength", "I", false)
  | 6 => ("DescribeText", "keptCount", "I", false)
  | 7 => ("DescribeText", "hand", "LDescribeText$Edition;", false)
  | _ => ("DescribeText", "ringStart", "LDescribeText$Layer;", false)
def tyX13 : Nat → FieldType := fun k => match k with
  | 0 => .array .byte
  | 1 => .object "DescribeText$Reader"
  | 2 => .object "DescribeText$Octets"
  | 3 => .object "DescribeText$Octets"
  | 4 => .array (.object "DescribeText$Edition")
  | 5 => .int
  | 6 => .int
  | 7 => .object "DescribeText$Edition"
  | _ => .object "DescribeText$Layer"
theorem nmX13 : ∀ a, a < 9 → ∀ b, b < 9 → a ≠ b → (TX13 a).2.1 ≠ (TX13 b).2.1 := by decide +kernel
theorem tyX13_ok : ∀ k, k < 9 → parseFieldDescriptor (TX13 k).2.2.1 = some (tyX13 k) := by decide +kernel
abbrev cX13_init : ByteArray := prog_1_method_1_code
def yX13_init : MethodName := ⟨RX13, "<init>", "()V"⟩
abbrev cX13_sign : ByteArray := prog_1_method_2_code
def yX13_sign : MethodName := ⟨RX13, "sign", "(I)V"⟩
abbrev cX13_service : ByteArray := prog_1_method_4_code
def yX13_service : MethodName := ⟨RX13, "service", "(II)I"⟩
abbrev cX13_parameter : ByteArray := prog_1_method_5_code
def yX13_parameter : MethodName := ⟨RX13, "parameter", "(III)I"⟩
abbrev cX13_decode : ByteArray := prog_1_method_6_code
def yX13_decode : MethodName := ⟨RX13, "decode", "(III)J"⟩
abbrev cX13_octet : ByteArray := prog_1_method_7_code
def yX13_octet : MethodName := ⟨RX13, "octet", "(B)V"⟩
abbrev cX13_encode : ByteArray := prog_1_method_8_code
def yX13_encode : MethodName := ⟨RX13, "encode", "(IIJ)I"⟩
abbrev cX13_variant : ByteArray := prog_1_method_10_code
def yX13_variant : MethodName := ⟨RX13, "variant", "(I)I"⟩
abbrev cX13_job : ByteArray := prog_1_method_11_code
def yX13_job : MethodName := ⟨RX13, "job", "(IJ)I"⟩
abbrev cX13_ring : ByteArray := prog_1_method_12_code
def yX13_ring : MethodName := ⟨RX13, "ring", "(I)I"⟩
abbrev cX13_compare : ByteArray := prog_1_method_13_code
def yX13_compare : MethodName := ⟨RX13, "compare", "(I)I"⟩
abbrev cX13_code : ByteArray := prog_1_method_14_code
def yX13_code : MethodName := ⟨RX13, "code", "(I)I"⟩
abbrev cX13_serviceNumbered : ByteArray := prog_1_method_17_code
def yX13_serviceNumbered : MethodName := ⟨RX13, "serviceNumbered", "(I)LDescribeText$Service;"⟩
abbrev cX13_parameterNumbered : ByteArray := prog_1_method_18_code
def yX13_parameterNumbered : MethodName := ⟨RX13, "parameterNumbered", "(LDescribeText$Service;I)LDescribeText$Parameter;"⟩
def RX14 : String := "DescribeTextModel"
def TX14 : u_T := fun k => match k with
  | 0 => ("DescribeTextModel", "names", "[I", true)
  | 1 => ("DescribeTextModel", "codings", "[I", true)
  | 2 => ("DescribeTextModel", "layers", "[I", true)
  | 3 => ("DescribeTextModel", "services", "[I", true)
  | 4 => ("DescribeTextModel", "codes", "[I", true)
  | 5 => ("DescribeTextModel", "variants", "[I", true)
  | 6 => ("DescribeTextModel", "jobs", "[I", true)
  | 7 => ("DescribeTextModel", "nameLength", "[I", true)
  | 8 => ("DescribeTextModel", "nameOctets", "[I", true)
  | 9 => ("DescribeTextModel", "codingName", "[I", true)
  | 10 => ("DescribeTextModel", "octets", "[I", true)
  | 11 => ("DescribeTextModel", "form", "[I", true)
  | 12 => ("DescribeTextModel", "up", "[I", true)
  | 13 => ("DescribeTextModel", "down", "[I", true)
  | 14 => ("DescribeTextModel", "more", "[I", true)
  | 15 => ("DescribeTextModel", "rows", "[I", true)
  | 16 => ("DescribeTextModel", "rowZ", "[I", true)
  | 17 => ("DescribeTextModel", "rowName", "[I", true)
  | 18 => ("DescribeTextModel", "layerName", "[I", true)
  | 19 => ("DescribeTextModel", "layerOf", "[I", true)
  | 20 => ("DescribeTextModel", "serviceName", "[I", true)
  | 21 => ("DescribeTextModel", "serviceZ", "[I", true)
  | 22 => ("DescribeTextModel", "serviceLayer", "[I", true)
  | 23 => ("DescribeTextModel", "params", "[I", true)
  | 24 => ("DescribeTextModel", "paramName", "[I", true)
  | 25 => ("DescribeTextModel", "paramCoding", "[I", true)
  | 26 => ("DescribeTextModel", "paramKind", "[I", true)
  | 27 => ("DescribeTextModel", "paramOther", "[I", true)
  | 28 => ("DescribeTextModel", "paramZ", "[I", true)
  | 29 => ("DescribeTextModel", "codeZ", "[I", true)
  | 30 => ("DescribeTextModel", "codeName", "[I", true)
  | 31 => ("DescribeTextModel", "variantLayer", "[I", true)
  | 32 => ("DescribeTextModel", "variantZ", "[I", true)
  | 33 => ("DescribeTextModel", "jobName", "[I", true)
  | 34 => ("DescribeTextModel", "ops", "[I", true)
  | 35 => ("DescribeTextModel", "opKind", "[I", true)
  | 36 => ("DescribeTextModel", "opA", "[I", true)
  | 37 => ("DescribeTextModel", "opB", "[I", true)
  | 38 => ("DescribeTextModel", "thrown", "I", false)
  | 39 => ("DescribeTextModel", "size", "I", false)
  | 40 => ("DescribeTextModel", "text", "[I", true)
  | 41 => ("DescribeTextModel", "draft", "I", false)
  | 42 => ("DescribeTextModel", "book", "I", false)
  | 43 => ("DescribeTextModel", "inHand", "Z", false)
  | 44 => ("DescribeTextModel", "editions", "I", false)
  | 45 => ("DescribeTextModel", "keptSize", "[I", true)
  | 46 => ("DescribeTextModel", "kept", "[I", true)
  | 47 => ("DescribeTextModel", "source", "[I", false)
  | 48 => ("DescribeTextModel", "sourceFrom", "I", false)
  | 49 => ("DescribeTextModel", "sourceEnd", "I", false)
  | 50 => ("DescribeTextModel", "at", "I", false)
  | 51 => ("DescribeTextModel", "line", "I", false)
  | 52 => ("DescribeTextModel", "kind", "I", false)
  | 53 => ("DescribeTextModel", "value", "I", false)
  | 54 => ("DescribeTextModel", "tokenLine", "I", false)
  | 55 => ("DescribeTextModel", "good", "Z", false)
  | 56 => ("DescribeTextModel", "jobOps", "I", false)
  | 57 => ("DescribeTextModel", "deep", "I", false)
  | 58 => ("DescribeTextModel", "claims", "I", false)
  | 59 => ("DescribeTextModel", "claimKind", "[I", true)
  | 60 => ("DescribeTextModel", "claimLine", "[I", true)
  | 61 => ("DescribeTextModel", "claimA", "[I", true)
  | 62 => ("DescribeTextModel", "claimB", "[I", true)
  | 63 => ("DescribeTextModel", "rings", "I", false)
  | 64 => ("DescribeTextModel", "ring", "[I", true)
  | 65 => ("DescribeTextModel", "answer", "[I", true)
  | 66 => ("DescribeTextModel", "answerSize", "I", false)
  | 67 => ("DescribeTextModel", "sent", "[I", true)
  | 68 => ("DescribeTextModel", "sentSize", "I", false)
  | 69 => ("DescribeTextModel", "inUse", "I", false)
  | 70 => ("DescribeTextModel", "raws", "[J", true)
  | 71 => ("DescribeTextModel", "there", "[Z", true)
  | 72 => ("DescribeTextModel", "place", "[I", true)
  | 73 => ("DescribeTextModel", "length", "[I", true)
  | 74 => ("DescribeTextModel", "raw", "[J", true)
  | _ => ("DescribeTextModel", "pile", "[J", true)
def RJx00060 : String := "java/lang/ArrayIndexOutOfBoundsException"
def TJx00060 : u_T := fun k => match k with
  | 0 => ("java/lang/Throwable", "cause", "Ljava/lang/Throwable;", false)
  | 1 => ("java/lang/Throwable", "stackTrace", "[Ljava/lang/StackTraceElement;", false)
  | 2 => ("java/lang/Throwable", "suppressedExceptions", "Ljava/util/List;", false)
  | 3 => ("java/lang/Throwable", "detailMessage", "Ljava/lang/String;", false)
  | 4 => ("java/lang/Throwable", "backtrace", "Ljava/lang/Object;", false)
  | _ => ("java/lang/Throwable", "depth", "I", false)
def RJx4a65c : String := "java/util/ArrayList"
def TJx4a65c : u_T := fun k => match k with
  | 0 => ("java/util/AbstractList", "modCount", "I", false)
  | 1 => ("java/util/ArrayList", "elementData", "[Ljava/lang/Object;", false)
  | _ => ("java/util/ArrayList", "size", "I", false)
theorem dX6_init_0 : decode cX6_init 0 = .ok (.aload_n 0, 1) := by decide +kernel
theorem dX6_init_1 : decode cX6_init 1 = .ok (.invokespecial 3, 3) := by decide +kernel
theorem dX6_init_4 : decode cX6_init 4 = .ok (.aload_n 0, 1) := by decide +kernel
theorem dX6_init_5 : decode cX6_init 5 = .ok (.bipush 64, 2) := by decide +kernel
theorem dX6_init_7 : decode cX6_init 7 = .ok (.newarray .byte, 2) := by decide +kernel
theorem dX6_init_9 : decode cX6_init 9 = .ok (.putfield 9, 3) := by decide +kernel
theorem dX6_init_12 : decode cX6_init 12 = .ok (.return_, 1) := by decide +kernel
theorem dX6_add_0 : decode cX6_add 0 = .ok (.aload_n 0, 1) := by decide +kernel
theorem dX6_add_1 : decode cX6_add 1 = .ok (.getfield 15, 3) := by decide +kernel
theorem dX6_add_4 : decode cX6_add 4 = .ok (.ifCond .lt 36, 3) := by decide +kernel
theorem dX6_add_7 : decode cX6_add 7 = .ok (.aload_n 0, 1) := by decide +kernel
theorem dX6_add_8 : decode cX6_add 8 = .ok (.getfield 15, 3) := by decide +kernel
theorem dX6_add_11 : decode cX6_add 11 = .ok (.aload_n 0, 1) := by decide +kernel
theorem dX6_add_12 : decode cX6_add 12 = .ok (.getfield 9, 3) := by decide +kernel
theorem dX6_add_15 : decode cX6_add 15 = .ok (.arraylength, 1) := by decide +kernel
theorem dX6_add_16 : decode cX6_add 16 = .ok (.if_icmp .ge 24, 3) := by decide +kernel
theorem dX6_add_19 : decode cX6_add 19 = .ok (.aload_n 0, 1) := by decide +kernel
theorem dX6_add_20 : decode cX6_add 20 = .ok (.getfield 9, 3) := by decide +kernel
theorem dX6_add_23 : decode cX6_add 23 = .ok (.aload_n 0, 1) := by decide +kernel
theorem dX6_add_24 : decode cX6_add 24 = .ok (.getfield 15, 3) := by decide +kernel
theorem dX6_add_27 : decode cX6_add 27 = .ok (.iload_n 1, 1) := by decide +kernel
theorem dX6_add_28 : decode cX6_add 28 = .ok (.i2b, 1) := by decide +kernel
theorem dX6_add_29 : decode cX6_add 29 = .ok (.bastore, 1) := by decide +kernel
theorem dX6_add_30 : decode cX6_add 30 = .ok (.aload_n 0, 1) := by decide +kernel
theorem dX6_add_31 : decode cX6_add 31 = .ok (.dup, 1) := by decide +kernel
theorem dX6_add_32 : decode cX6_add 32 = .ok (.getfield 15, 3) := by decide +kernel
theorem dX6_add_35 : decode cX6_add 35 = .ok (.iconst 1, 1) := by decide +kernel
theorem dX6_add_36 : decode cX6_add 36 = .ok (.iadd, 1) := by decide +kernel
theorem dX6_add_37 : decode cX6_add 37 = .ok (.putfield 15, 3) := by decide +kernel
theorem dX6_add_40 : decode cX6_add 40 = .ok (.return_, 1) := by decide +kernel
theorem dX6_at_0 : decode cX6_at 0 = .ok (.iload_n 1, 1) := by decide +kernel
theorem dX6_at_1 : decode cX6_at 1 = .ok (.ifCond .lt 20, 3) := by decide +kernel
theorem dX6_at_4 : decode cX6_at 4 = .ok (.iload_n 1, 1) := by decide +kernel
theorem dX6_at_5 : decode cX6_at 5 = .ok (.aload_n 0, 1) := by decide +kernel
theorem dX6_at_6 : decode cX6_at 6 = .ok (.getfield 15, 3) := by decide +kernel
theorem dX6_at_9 : decode cX6_at 9 = .ok (.if_icmp .ge 12, 3) := by decide +kernel
theorem dX6_at_12 : decode cX6_at 12 = .ok (.iload_n 1, 1) := by decide +kernel
theorem dX6_at_13 : decode cX6_at 13 = .ok (.aload_n 0, 1) := by decide +kernel
theorem dX6_at_14 : decode cX6_at 14 = .ok (.getfield 9, 3) := by decide +kernel
theorem dX6_at_17 : decode cX6_at 17 = .ok (.arraylength, 1) := by decide +kernel
theorem dX6_at_18 : decode cX6_at 18 = .ok (.if_icmp .lt 7, 3) := by decide +kernel
theorem dX6_at_21 : decode cX6_at 21 = .ok (.iconst 0, 1) := by decide +kernel
theorem dX6_at_22 : decode cX6_at 22 = .ok (.goto 13, 3) := by decide +kernel
theorem dX6_at_25 : decode cX6_at 25 = .ok (.aload_n 0, 1) := by decide +kernel
theorem dX6_at_26 : decode cX6_at 26 = .ok (.getfield 9, 3) := by decide +kernel
theorem dX6_at_29 : decode cX6_at 29 = .ok (.iload_n 1, 1) := by decide +kernel
theorem dX6_at_30 : decode cX6_at 30 = .ok (.baload, 1) := by decide +kernel
theorem dX6_at_31 : decode cX6_at 31 = .ok (.sipush 255, 3) := by decide +kernel
theorem dX6_at_34 : decode cX6_at 34 = .ok (.iand, 1) := by decide +kernel
theorem dX6_at_35 : decode cX6_at 35 = .ok (.ireturn, 1) := by decide +kernel
theorem dX9_init_0 : decode cX9_init 0 = .ok (.aload_n 0, 1) := by decide +kernel
theorem dX9_init_1 : decode cX9_init 1 = .ok (.invokespecial 3, 3) := by decide +kernel
theorem dX9_init_4 : decode cX9_init 4 = .ok (.aload_n 0, 1) := by decide +kernel
theorem dX9_init_5 : decode cX9_init 5 = .ok (.new 9, 3) := by decide +kernel
theorem dX9_init_8 : decode cX9_init 8 = .ok (.dup, 1) := by decide +kernel
theorem dX9_init_9 : decode cX9_init 9 = .ok (.invokespecial 11, 3) := by decide +kernel
theorem dX9_init_12 : decode cX9_init 12 = .ok (.putfield 12, 3) := by decide +kernel
theorem dX9_init_15 : decode cX9_init 15 = .ok (.aload_n 0, 1) := by decide +kernel
theorem dX9_init_16 : decode cX9_init 16 = .ok (.iconst 3, 1) := by decide +kernel
theorem dX9_init_17 : decode cX9_init 17 = .ok (.newarray .int, 2) := by decide +kernel
theorem dX9_init_19 : decode cX9_init 19 = .ok (.putfield 18, 3) := by decide +kernel
theorem dX9_init_22 : decode cX9_init 22 = .ok (.return_, 1) := by decide +kernel
theorem dX12_init_0 : decode cX12_init 0 = .ok (.aload_n 0, 1) := by decide +kernel
theorem dX12_init_1 : decode cX12_init 1 = .ok (.invokespecial 3, 3) := by decide +kernel
theorem dX12_init_4 : decode cX12_init 4 = .ok (.aload_n 0, 1) := by decide +kernel
theorem dX12_init_5 : decode cX12_init 5 = .ok (.sipush 2001, 3) := by decide +kernel
theorem dX12_init_8 : decode cX12_init 8 = .ok (.anewarray 9, 3) := by decide +kernel
theorem dX12_init_11 : decode cX12_init 11 = .ok (.putfield 11, 3) := by decide +kernel
theorem dX12_init_14 : decode cX12_init 14 = .ok (.aload_n 0, 1) := by decide +kernel
theorem dX12_init_15 : decode cX12_init 15 = .ok (.sipush 2001, 3) := by decide +kernel
theorem dX12_init_18 : decode cX12_init 18 = .ok (.newarray .int, 2) := by decide +kernel
theorem dX12_init_20 : decode cX12_init 20 = .ok (.putfield 17, 3) := by decide +kernel
theorem dX12_init_23 : decode cX12_init 23 = .ok (.aload_n 0, 1) := by decide +kernel
theorem dX12_init_24 : decode cX12_init 24 = .ok (.sipush 2001, 3) := by decide +kernel
theorem dX12_init_27 : decode cX12_init 27 = .ok (.newarray .long, 2) := by decide +kernel
theorem dX12_init_29 : decode cX12_init 29 = .ok (.putfield 21, 3) := by decide +kernel
theorem dX12_init_32 : decode cX12_init 32 = .ok (.return_, 1) := by decide +kernel
theorem dX13_init_0 : decode cX13_init 0 = .ok (.aload_n 0, 1) := by decide +kernel
theorem dX13_init_1 : decode cX13_init 1 = .ok (.invokespecial 3, 3) := by decide +kernel
theorem dX13_init_4 : decode cX13_init 4 = .ok (.aload_n 0, 1) := by decide +kernel
theorem dX13_init_5 : decode cX13_init 5 = .ok (.sipush 2000, 3) := by decide +kernel
theorem dX13_init_8 : decode cX13_init 8 = .ok (.newarray .byte, 2) := by decide +kernel
theorem dX13_init_10 : decode cX13_init 10 = .ok (.putfield 11, 3) := by decide +kernel
theorem dX13_init_13 : decode cX13_init 13 = .ok (.aload_n 0, 1) := by decide +kernel
theorem dX13_init_14 : decode cX13_init 14 = .ok (.new 15, 3) := by decide +kernel
theorem dX13_init_17 : decode cX13_init 17 = .ok (.dup, 1) := by decide +kernel
theorem dX13_init_18 : decode cX13_init 18 = .ok (.invokespecial 17, 3) := by decide +kernel
theorem dX13_init_21 : decode cX13_init 21 = .ok (.putfield 18, 3) := by decide +kernel
theorem dX13_init_24 : decode cX13_init 24 = .ok (.aload_n 0, 1) := by decide +kernel
theorem dX13_init_25 : decode cX13_init 25 = .ok (.new 22, 3) := by decide +kernel
theorem dX13_init_28 : decode cX13_init 28 = .ok (.dup, 1) := by decide +kernel
theorem dX13_init_29 : decode cX13_init 29 = .ok (.invokespecial 24, 3) := by decide +kernel
theorem dX13_init_32 : decode cX13_init 32 = .ok (.putfield 25, 3) := by decide +kernel
theorem dX13_init_35 : decode cX13_init 35 = .ok (.aload_n 0, 1) := by decide +kernel
theorem dX13_init_36 : decode cX13_init 36 = .ok (.new 22, 3) := by decide +kernel
theorem dX13_init_39 : decode cX13_init 39 = .ok (.dup, 1) := by decide +kernel
theorem dX13_init_40 : decode cX13_init 40 = .ok (.invokespecial 24, 3) := by decide +kernel
theorem dX13_init_43 : decode cX13_init 43 = .ok (.putfield 29, 3) := by decide +kernel
theorem dX13_init_46 : decode cX13_init 46 = .ok (.aload_n 0, 1) := by decide +kernel
theorem dX13_init_47 : decode cX13_init 47 = .ok (.iconst 4, 1) := by decide +kernel
theorem dX13_init_48 : decode cX13_init 48 = .ok (.anewarray 32, 3) := by decide +kernel
theorem dX13_init_51 : decode cX13_init 51 = .ok (.putfield 34, 3) := by decide +kernel
theorem dX13_init_54 : decode cX13_init 54 = .ok (.return_, 1) := by decide +kernel
theorem dX13_sign_0 : decode cX13_sign 0 = .ok (.bipush 24, 2) := by decide +kernel
theorem dX13_sign_2 : decode cX13_sign 2 = .ok (.istore_n 2, 1) := by decide +kernel
theorem dX13_sign_3 : decode cX13_sign 3 = .ok (.iload_n 2, 1) := by decide +kernel
theorem dX13_sign_4 : decode cX13_sign 4 = .ok (.ifCond .lt 52, 3) := by decide +kernel
theorem dX13_sign_7 : decode cX13_sign 7 = .ok (.iload_n 1, 1) := by decide +kernel
theorem dX13_sign_8 : decode cX13_sign 8 = .ok (.iload_n 2, 1) := by decide +kernel
theorem dX13_sign_9 : decode cX13_sign 9 = .ok (.iushr, 1) := by decide +kernel
theorem dX13_sign_10 : decode cX13_sign 10 = .ok (.sipush 255, 3) := by decide +kernel
theorem dX13_sign_13 : decode cX13_sign 13 = .ok (.iand, 1) := by decide +kernel
theorem dX13_sign_14 : decode cX13_sign 14 = .ok (.istore_n 3, 1) := by decide +kernel
theorem dX13_sign_15 : decode cX13_sign 15 = .ok (.iload_n 3, 1) := by decide +kernel
theorem dX13_sign_16 : decode cX13_sign 16 = .ok (.ifCond .eq 34, 3) := by decide +kernel
theorem dX13_sign_19 : decode cX13_sign 19 = .ok (.aload_n 0, 1) := by decide +kernel
theorem dX13_sign_20 : decode cX13_sign 20 = .ok (.getfield 38, 3) := by decide +kernel
theorem dX13_sign_23 : decode cX13_sign 23 = .ok (.sipush 2000, 3) := by decide +kernel
theorem dX13_sign_26 : decode cX13_sign 26 = .ok (.if_icmp .ge 24, 3) := by decide +kernel
theorem dX13_sign_29 : decode cX13_sign 29 = .ok (.aload_n 0, 1) := by decide +kernel
theorem dX13_sign_30 : decode cX13_sign 30 = .ok (.getfield 11, 3) := by decide +kernel
theorem dX13_sign_33 : decode cX13_sign 33 = .ok (.aload_n 0, 1) := by decide +kernel
theorem dX13_sign_34 : decode cX13_sign 34 = .ok (.getfield 38, 3) := by decide +kernel
theorem dX13_sign_37 : decode cX13_sign 37 = .ok (.iload_n 3, 1) := by decide +kernel
theorem dX13_sign_38 : decode cX13_sign 38 = .ok (.i2b, 1) := by decide +kernel
theorem dX13_sign_39 : decode cX13_sign 39 = .ok (.bastore, 1) := by decide +kernel
theorem dX13_sign_40 : decode cX13_sign 40 = .ok (.aload_n 0, 1) := by decide +kernel
theorem dX13_sign_41 : decode cX13_sign 41 = .ok (.dup, 1) := by decide +kernel
theorem dX13_sign_42 : decode cX13_sign 42 = .ok (.getfield 38, 3) := by decide +kernel
theorem dX13_sign_45 : decode cX13_sign 45 = .ok (.iconst 1, 1) := by decide +kernel
theorem dX13_sign_46 : decode cX13_sign 46 = .ok (.iadd, 1) := by decide +kernel
theorem dX13_sign_47 : decode cX13_sign 47 = .ok (.putfield 38, 3) := by decide +kernel
theorem dX13_sign_50 : decode cX13_sign 50 = .ok (.iinc 2 (-8), 3) := by decide +kernel
theorem dX13_sign_53 : decode cX13_sign 53 = .ok (.goto (-50), 3) := by decide +kernel
theorem dX13_sign_56 : decode cX13_sign 56 = .ok (.return_, 1) := by decide +kernel
theorem dX13_service_0 : decode cX13_service 0 = .ok (.aload_n 0, 1) := by decide +kernel
theorem dX13_service_1 : decode cX13_service 1 = .ok (.iload_n 1, 1) := by decide +kernel
theorem dX13_service_2 : decode cX13_service 2 = .ok (.invokevirtual 76, 3) := by decide +kernel
theorem dX13_service_5 : decode cX13_service 5 = .ok (.astore_n 3, 1) := by decide +kernel
theorem dX13_service_6 : decode cX13_service 6 = .ok (.aload_n 3, 1) := by decide +kernel
theorem dX13_service_7 : decode cX13_service 7 = .ok (.ifnull 10, 3) := by decide +kernel
theorem dX13_service_17 : decode cX13_service 17 = .ok (.iconst (-1), 1) := by decide +kernel
theorem dX13_service_18 : decode cX13_service 18 = .ok (.ireturn, 1) := by decide +kernel
theorem dX13_parameter_0 : decode cX13_parameter 0 = .ok (.aload_n 0, 1) := by decide +kernel
theorem dX13_parameter_1 : decode cX13_parameter 1 = .ok (.iload_n 1, 1) := by decide +kernel
theorem dX13_parameter_2 : decode cX13_parameter 2 = .ok (.invokevirtual 76, 3) := by decide +kernel
theorem dX13_parameter_5 : decode cX13_parameter 5 = .ok (.iload_n 2, 1) := by decide +kernel
theorem dX13_parameter_6 : decode cX13_parameter 6 = .ok (.invokestatic 111, 3) := by decide +kernel
theorem dX13_parameter_9 : decode cX13_parameter 9 = .ok (.astore 4, 2) := by decide +kernel
theorem dX13_parameter_11 : decode cX13_parameter 11 = .ok (.aload 4, 2) := by decide +kernel
theorem dX13_parameter_13 : decode cX13_parameter 13 = .ok (.ifnull 10, 3) := by decide +kernel
theorem dX13_parameter_23 : decode cX13_parameter 23 = .ok (.iconst (-1), 1) := by decide +kernel
theorem dX13_parameter_24 : decode cX13_parameter 24 = .ok (.ireturn, 1) := by decide +kernel
theorem dX13_decode_0 : decode cX13_decode 0 = .ok (.aload_n 0, 1) := by decide +kernel
theorem dX13_decode_1 : decode cX13_decode 1 = .ok (.iload_n 1, 1) := by decide +kernel
theorem dX13_decode_2 : decode cX13_decode 2 = .ok (.invokevirtual 76, 3) := by decide +kernel
theorem dX13_decode_5 : decode cX13_decode 5 = .ok (.astore 4, 2) := by decide +kernel
theorem dX13_decode_7 : decode cX13_decode 7 = .ok (.aload 4, 2) := by decide +kernel
theorem dX13_decode_9 : decode cX13_decode 9 = .ok (.iload_n 2, 1) := by decide +kernel
theorem dX13_decode_10 : decode cX13_decode 10 = .ok (.invokestatic 111, 3) := by decide +kernel
theorem dX13_decode_13 : decode cX13_decode 13 = .ok (.astore 5, 2) := by decide +kernel
theorem dX13_decode_15 : decode cX13_decode 15 = .ok (.aload 4, 2) := by decide +kernel
theorem dX13_decode_17 : decode cX13_decode 17 = .ok (.ifnull 15, 3) := by decide +kernel
theorem dX13_decode_32 : decode cX13_decode 32 = .ok (.ldc2_w 134, 3) := by decide +kernel
theorem dX13_decode_35 : decode cX13_decode 35 = .ok (.lreturn, 1) := by decide +kernel
theorem dX13_octet_0 : decode cX13_octet 0 = .ok (.aload_n 0, 1) := by decide +kernel
theorem dX13_octet_1 : decode cX13_octet 1 = .ok (.getfield 25, 3) := by decide +kernel
theorem dX13_octet_4 : decode cX13_octet 4 = .ok (.getfield 160, 3) := by decide +kernel
theorem dX13_octet_7 : decode cX13_octet 7 = .ok (.bipush 64, 2) := by decide +kernel
theorem dX13_octet_9 : decode cX13_octet 9 = .ok (.if_icmp .ne 11, 3) := by decide +kernel
theorem dX13_octet_12 : decode cX13_octet 12 = .ok (.aload_n 0, 1) := by decide +kernel
theorem dX13_octet_13 : decode cX13_octet 13 = .ok (.getfield 25, 3) := by decide +kernel
theorem dX13_octet_16 : decode cX13_octet 16 = .ok (.iconst 0, 1) := by decide +kernel
theorem dX13_octet_17 : decode cX13_octet 17 = .ok (.putfield 160, 3) := by decide +kernel
theorem dX13_octet_20 : decode cX13_octet 20 = .ok (.aload_n 0, 1) := by decide +kernel
theorem dX13_octet_21 : decode cX13_octet 21 = .ok (.getfield 25, 3) := by decide +kernel
theorem dX13_octet_24 : decode cX13_octet 24 = .ok (.iload_n 1, 1) := by decide +kernel
theorem dX13_octet_25 : decode cX13_octet 25 = .ok (.invokevirtual 163, 3) := by decide +kernel
theorem dX13_octet_28 : decode cX13_octet 28 = .ok (.return_, 1) := by decide +kernel
theorem dX13_encode_0 : decode cX13_encode 0 = .ok (.aload_n 0, 1) := by decide +kernel
theorem dX13_encode_1 : decode cX13_encode 1 = .ok (.iload_n 1, 1) := by decide +kernel
theorem dX13_encode_2 : decode cX13_encode 2 = .ok (.invokevirtual 76, 3) := by decide +kernel
theorem dX13_encode_5 : decode cX13_encode 5 = .ok (.astore 5, 2) := by decide +kernel
theorem dX13_encode_7 : decode cX13_encode 7 = .ok (.aload 5, 2) := by decide +kernel
theorem dX13_encode_9 : decode cX13_encode 9 = .ok (.iload_n 2, 1) := by decide +kernel
theorem dX13_encode_10 : decode cX13_encode 10 = .ok (.invokestatic 111, 3) := by decide +kernel
theorem dX13_encode_13 : decode cX13_encode 13 = .ok (.astore 6, 2) := by decide +kernel
theorem dX13_encode_15 : decode cX13_encode 15 = .ok (.aload 5, 2) := by decide +kernel
theorem dX13_encode_17 : decode cX13_encode 17 = .ok (.ifnull 16, 3) := by decide +kernel
theorem dX13_encode_33 : decode cX13_encode 33 = .ok (.iconst (-1), 1) := by decide +kernel
theorem dX13_encode_34 : decode cX13_encode 34 = .ok (.ireturn, 1) := by decide +kernel
theorem dX13_variant_0 : decode cX13_variant 0 = .ok (.aload_n 0, 1) := by decide +kernel
theorem dX13_variant_1 : decode cX13_variant 1 = .ok (.getfield 80, 3) := by decide +kernel
theorem dX13_variant_4 : decode cX13_variant 4 = .ok (.ifnonnull 6, 3) := by decide +kernel
theorem dX13_variant_7 : decode cX13_variant 7 = .ok (.bipush (-3), 2) := by decide +kernel
theorem dX13_variant_9 : decode cX13_variant 9 = .ok (.ireturn, 1) := by decide +kernel
theorem dX13_job_0 : decode cX13_job 0 = .ok (.aload_n 0, 1) := by decide +kernel
theorem dX13_job_1 : decode cX13_job 1 = .ok (.getfield 80, 3) := by decide +kernel
theorem dX13_job_4 : decode cX13_job 4 = .ok (.ifnull 22, 3) := by decide +kernel
theorem dX13_job_26 : decode cX13_job 26 = .ok (.iconst (-1), 1) := by decide +kernel
theorem dX13_job_27 : decode cX13_job 27 = .ok (.ireturn, 1) := by decide +kernel
theorem dX13_ring_0 : decode cX13_ring 0 = .ok (.iload_n 1, 1) := by decide +kernel
theorem dX13_ring_1 : decode cX13_ring 1 = .ok (.ifCond .lt 9, 3) := by decide +kernel
theorem dX13_ring_4 : decode cX13_ring 4 = .ok (.iload_n 1, 1) := by decide +kernel
theorem dX13_ring_5 : decode cX13_ring 5 = .ok (.bipush 6, 2) := by decide +kernel
theorem dX13_ring_7 : decode cX13_ring 7 = .ok (.if_icmp .lt 5, 3) := by decide +kernel
theorem dX13_ring_10 : decode cX13_ring 10 = .ok (.iconst 0, 1) := by decide +kernel
theorem dX13_ring_11 : decode cX13_ring 11 = .ok (.ireturn, 1) := by decide +kernel
theorem dX13_ring_12 : decode cX13_ring 12 = .ok (.aload_n 0, 1) := by decide +kernel
theorem dX13_ring_13 : decode cX13_ring 13 = .ok (.getfield 43, 3) := by decide +kernel
theorem dX13_ring_16 : decode cX13_ring 16 = .ok (.astore_n 2, 1) := by decide +kernel
theorem dX13_ring_17 : decode cX13_ring 17 = .ok (.iconst 0, 1) := by decide +kernel
theorem dX13_ring_18 : decode cX13_ring 18 = .ok (.istore_n 3, 1) := by decide +kernel
theorem dX13_ring_19 : decode cX13_ring 19 = .ok (.iload_n 3, 1) := by decide +kernel
theorem dX13_ring_20 : decode cX13_ring 20 = .ok (.iload_n 1, 1) := by decide +kernel
theorem dX13_ring_21 : decode cX13_ring 21 = .ok (.if_icmp .ge 33, 3) := by decide +kernel
theorem dX13_ring_24 : decode cX13_ring 24 = .ok (.aload_n 2, 1) := by decide +kernel
theorem dX13_ring_25 : decode cX13_ring 25 = .ok (.ifnull 29, 3) := by decide +kernel
theorem dX13_ring_54 : decode cX13_ring 54 = .ok (.aload_n 2, 1) := by decide +kernel
theorem dX13_ring_55 : decode cX13_ring 55 = .ok (.ifnonnull 7, 3) := by decide +kernel
theorem dX13_ring_58 : decode cX13_ring 58 = .ok (.iconst 0, 1) := by decide +kernel
theorem dX13_ring_59 : decode cX13_ring 59 = .ok (.goto 7, 3) := by decide +kernel
theorem dX13_ring_66 : decode cX13_ring 66 = .ok (.ireturn, 1) := by decide +kernel
theorem dX13_compare_0 : decode cX13_compare 0 = .ok (.aload_n 0, 1) := by decide +kernel
theorem dX13_compare_1 : decode cX13_compare 1 = .ok (.getfield 80, 3) := by decide +kernel
theorem dX13_compare_4 : decode cX13_compare 4 = .ok (.ifnull 21, 3) := by decide +kernel
theorem dX13_compare_25 : decode cX13_compare 25 = .ok (.iconst (-1), 1) := by decide +kernel
theorem dX13_compare_26 : decode cX13_compare 26 = .ok (.ireturn, 1) := by decide +kernel
theorem dX13_code_0 : decode cX13_code 0 = .ok (.aload_n 0, 1) := by decide +kernel
theorem dX13_code_1 : decode cX13_code 1 = .ok (.getfield 80, 3) := by decide +kernel
theorem dX13_code_4 : decode cX13_code 4 = .ok (.ifnonnull 5, 3) := by decide +kernel
theorem dX13_code_7 : decode cX13_code 7 = .ok (.iconst 0, 1) := by decide +kernel
theorem dX13_code_8 : decode cX13_code 8 = .ok (.ireturn, 1) := by decide +kernel
theorem dX13_serviceNumbered_0 : decode cX13_serviceNumbered 0 = .ok (.aload_n 0, 1) := by decide +kernel
theorem dX13_serviceNumbered_1 : decode cX13_serviceNumbered 1 = .ok (.getfield 80, 3) := by decide +kernel
theorem dX13_serviceNumbered_4 : decode cX13_serviceNumbered 4 = .ok (.ifnull 22, 3) := by decide +kernel
theorem dX13_serviceNumbered_26 : decode cX13_serviceNumbered 26 = .ok (.aconst_null, 1) := by decide +kernel
theorem dX13_serviceNumbered_27 : decode cX13_serviceNumbered 27 = .ok (.areturn, 1) := by decide +kernel
theorem dX13_parameterNumbered_0 : decode cX13_parameterNumbered 0 = .ok (.aload_n 0, 1) := by decide +kernel
theorem dX13_parameterNumbered_1 : decode cX13_parameterNumbered 1 = .ok (.ifnull 19, 3) := by decide +kernel
theorem dX13_parameterNumbered_20 : decode cX13_parameterNumbered 20 = .ok (.aconst_null, 1) := by decide +kernel
theorem dX13_parameterNumbered_21 : decode cX13_parameterNumbered 21 = .ok (.areturn, 1) := by decide +kernel
abbrev vwCl : List vw_C := [(RJx00060, TJx00060, 6), (RJx4a65c, TJx4a65c, 3), (RX1, TX1, 10), (RX2, TX2, 11), (RX3, TX3, 5), (RX4, TX4, 5), (RX5, TX5, 6), (RX6, TX6, 2), (RX7, TX7, 9), (RX8, TX8, 15), (RX9, TX9, 5), (RX10, TX10, 6), (RX11, TX11, 0), (RX12, TX12, 4), (RX13, TX13, 9), (RX14, TX14, 76)]
end
section
theorem tw_46 : (Cond.selects "DescribeText" ⟨"DescribeText", "serviceNumbered", "(I)LDescribeText$Service;"⟩ ⟨"DescribeText", "serviceNumbered", "(I)LDescribeText$Service;"⟩ : Cond) ∈ lw_tbl := List.mem_of_getElem? (i := 46) (by decide +kernel)
theorem tw_105 : ((Jvm.Cond.initialized "DescribeText") : Cond) ∈ lw_tbl := List.mem_of_getElem? (i := 105) (by decide +kernel)
theorem tw_106 : ((Jvm.Cond.initialized "DescribeText$Reader") : Cond) ∈ lw_tbl := List.mem_of_getElem? (i := 106) (by decide +kernel)
theorem tw_107 : ((Jvm.Cond.initialized "DescribeText$Tokens") : Cond) ∈ lw_tbl := List.mem_of_getElem? (i := 107) (by decide +kernel)
theorem tw_108 : ((Jvm.Cond.initialized "DescribeText$Octets") : Cond) ∈ lw_tbl := List.mem_of_getElem? (i := 108) (by decide +kernel)
theorem tw_143 : ((Jvm.Cond.methodLink "DescribeText" (3 : Nat) ({ cls := "java/lang/Object", name := "<init>", desc := "()V" } : Jvm.MethodName)) : Cond) ∈ lw_tbl := List.mem_of_getElem? (i := 143) (by decide +kernel)
theorem tw_144 : ((Jvm.Cond.instanceMethod ({ cls := "java/lang/Object", name := "<init>", desc := "()V" } : Jvm.MethodName)) : Cond) ∈ lw_tbl := List.mem_of_getElem? (i := 144) (by decide +kernel)
theorem tw_145 : ((Jvm.Cond.code ({ cls := "java/lang/Object", name := "<init>", desc := "()V" } : Jvm.MethodName) object_method_1_code (1 : Nat) (Option.none : Option Jvm.ClassFile.FieldType)) : Cond) ∈ lw_tbl := List.mem_of_getElem? (i := 145) (by decide +kernel)
theorem tw_146 : ((Jvm.Cond.classLink "DescribeText" (15 : Nat) "DescribeText$Reader") : Cond) ∈ lw_tbl := List.mem_of_getElem? (i := 146) (by decide +kernel)
theorem tw_147 : ((Jvm.Cond.instantiable "DescribeText$Reader" (5 : Nat)) : Cond) ∈ lw_tbl := List.mem_of_getElem? (i := 147) (by decide +kernel)
theorem tw_148 : ((Jvm.Cond.methodLinkNest "DescribeText" (17 : Nat) ({ cls := "DescribeText$Reader", name := "<init>", desc := "()V" } : Jvm.MethodName) "DescribeText") : Cond) ∈ lw_tbl := List.mem_of_getElem? (i := 148) (by decide +kernel)
theorem tw_149 : ((Jvm.Cond.instanceMethod ({ cls := "DescribeText$Reader", name := "<init>", desc := "()V" } : Jvm.MethodName)) : Cond) ∈ lw_tbl := List.mem_of_getElem? (i := 149) (by decide +kernel)
theorem tw_150 : ((Jvm.Cond.code ({ cls := "DescribeText$Reader", name := "<init>", desc := "()V" } : Jvm.MethodName) prog_11_method_1_code (1 : Nat) (Option.none : Option Jvm.ClassFile.FieldType)) : Cond) ∈ lw_tbl := List.mem_of_getElem? (i := 150) (by decide +kernel)
theorem tw_151 : ((Jvm.Cond.methodLink "DescribeText$Reader" (3 : Nat) ({ cls := "java/lang/Object", name := "<init>", desc := "()V" } : Jvm.MethodName)) : Cond) ∈ lw_tbl := List.mem_of_getElem? (i := 151) (by decide +kernel)
theorem tw_152 : ((Jvm.Cond.classLink "DescribeText$Reader" (9 : Nat) "DescribeText$Tokens") : Cond) ∈ lw_tbl := List.mem_of_getElem? (i := 152) (by decide +kernel)
theorem tw_153 : ((Jvm.Cond.instantiable "DescribeText$Tokens" (4 : Nat)) : Cond) ∈ lw_tbl := List.mem_of_getElem? (i := 153) (by decide +kernel)
theorem tw_154 : ((Jvm.Cond.methodLinkNest "DescribeText$Reader" (11 : Nat) ({ cls := "DescribeText$Tokens", name := "<init>", desc := "()V" } : Jvm.MethodName) "DescribeText") : Cond) ∈ lw_tbl := List.mem_of_getElem? (i := 154) (by decide +kernel)
theorem tw_155 : ((Jvm.Cond.instanceMethod ({ cls := "DescribeText$Tokens", name := "<init>", desc := "()V" } : Jvm.MethodName)) : Cond) ∈ lw_tbl := List.mem_of_getElem? (i := 155) (by decide +kernel)
theorem tw_156 : ((Jvm.Cond.code ({ cls := "DescribeText$Tokens", name := "<init>", desc := "()V" } : Jvm.MethodName) prog_14_method_1_code (1 : Nat) (Option.none : Option Jvm.ClassFile.FieldType)) : Cond) ∈ lw_tbl := List.mem_of_getElem? (i := 156) (by decide +kernel)
theorem tw_157 : ((Jvm.Cond.methodLink "DescribeText$Tokens" (3 : Nat) ({ cls := "java/lang/Object", name := "<init>", desc := "()V" } : Jvm.MethodName)) : Cond) ∈ lw_tbl := List.mem_of_getElem? (i := 157) (by decide +kernel)
theorem tw_158 : ((Jvm.Cond.classLink "DescribeText$Tokens" (9 : Nat) "DescribeText$Token") : Cond) ∈ lw_tbl := List.mem_of_getElem? (i := 158) (by decide +kernel)
theorem tw_159 : ((Jvm.Cond.arrayOver (Jvm.ClassFile.FieldType.object "DescribeText$Token")) : Cond) ∈ lw_tbl := List.mem_of_getElem? (i := 159) (by decide +kernel)
theorem tw_160 : ((Jvm.Cond.fieldLink "DescribeText$Tokens" (11 : Nat) "DescribeText$Tokens" "kinds" "[LDescribeText$Token;") : Cond) ∈ lw_tbl := List.mem_of_getElem? (i := 160) (by decide +kernel)
theorem tw_161 : ((Jvm.Cond.fieldLink "DescribeText$Tokens" (17 : Nat) "DescribeText$Tokens" "starts" "[I") : Cond) ∈ lw_tbl := List.mem_of_getElem? (i := 161) (by decide +kernel)
theorem tw_162 : ((Jvm.Cond.fieldLink "DescribeText$Tokens" (21 : Nat) "DescribeText$Tokens" "values" "[J") : Cond) ∈ lw_tbl := List.mem_of_getElem? (i := 162) (by decide +kernel)
theorem tw_174 : ((Jvm.Cond.arrayClass Jvm.ClassFile.FieldType.byte) : Cond) ∈ lw_tbl := List.mem_of_getElem? (i := 174) (by decide +kernel)
theorem tw_175 : ((Jvm.Cond.arrayClass Jvm.ClassFile.FieldType.int) : Cond) ∈ lw_tbl := List.mem_of_getElem? (i := 175) (by decide +kernel)
theorem tw_176 : ((Jvm.Cond.arrayClass Jvm.ClassFile.FieldType.long) : Cond) ∈ lw_tbl := List.mem_of_getElem? (i := 176) (by decide +kernel)
theorem tw_177 : ((Jvm.Cond.fieldLink "DescribeText$Reader" (12 : Nat) "DescribeText$Reader" "tokens" "LDescribeText$Tokens;") : Cond) ∈ lw_tbl := List.mem_of_getElem? (i := 177) (by decide +kernel)
theorem tw_178 : ((Jvm.Cond.fieldLink "DescribeText$Reader" (18 : Nat) "DescribeText$Reader" "openWhiles" "[I") : Cond) ∈ lw_tbl := List.mem_of_getElem? (i := 178) (by decide +kernel)
theorem tw_193 : ((Jvm.Cond.classLink "DescribeText" (22 : Nat) "DescribeText$Octets") : Cond) ∈ lw_tbl := List.mem_of_getElem? (i := 193) (by decide +kernel)
theorem tw_194 : ((Jvm.Cond.instantiable "DescribeText$Octets" (2 : Nat)) : Cond) ∈ lw_tbl := List.mem_of_getElem? (i := 194) (by decide +kernel)
theorem tw_195 : ((Jvm.Cond.methodLinkNest "DescribeText" (24 : Nat) ({ cls := "DescribeText$Octets", name := "<init>", desc := "()V" } : Jvm.MethodName) "DescribeText") : Cond) ∈ lw_tbl := List.mem_of_getElem? (i := 195) (by decide +kernel)
theorem tw_196 : ((Jvm.Cond.instanceMethod ({ cls := "DescribeText$Octets", name := "<init>", desc := "()V" } : Jvm.MethodName)) : Cond) ∈ lw_tbl := List.mem_of_getElem? (i := 196) (by decide +kernel)
theorem tw_197 : ((Jvm.Cond.code ({ cls := "DescribeText$Octets", name := "<init>", desc := "()V" } : Jvm.MethodName) prog_8_method_1_code (1 : Nat) (Option.none : Option Jvm.ClassFile.FieldType)) : Cond) ∈ lw_tbl := List.mem_of_getElem? (i := 197) (by decide +kernel)
theorem tw_198 : ((Jvm.Cond.methodLink "DescribeText$Octets" (3 : Nat) ({ cls := "java/lang/Object", name := "<init>", desc := "()V" } : Jvm.MethodName)) : Cond) ∈ lw_tbl := List.mem_of_getElem? (i := 198) (by decide +kernel)
theorem tw_199 : ((Jvm.Cond.fieldLink "DescribeText$Octets" (9 : Nat) "DescribeText$Octets" "row" "[B") : Cond) ∈ lw_tbl := List.mem_of_getElem? (i := 199) (by decide +kernel)
theorem tw_200 : ((Jvm.Cond.fieldLink "DescribeText$Octets" (15 : Nat) "DescribeText$Octets" "length" "I") : Cond) ∈ lw_tbl := List.mem_of_getElem? (i := 200) (by decide +kernel)
theorem tw_203 : ((Jvm.Cond.fieldLinkNest "DescribeText" (160 : Nat) "DescribeText$Octets" "length" "I" "DescribeText") : Cond) ∈ lw_tbl := List.mem_of_getElem? (i := 203) (by decide +kernel)
theorem tw_209 : ((Jvm.Cond.classLink "DescribeText" (32 : Nat) "DescribeText$Edition") : Cond) ∈ lw_tbl := List.mem_of_getElem? (i := 209) (by decide +kernel)
theorem tw_210 : ((Jvm.Cond.arrayOver (Jvm.ClassFile.FieldType.object "DescribeText$Edition")) : Cond) ∈ lw_tbl := List.mem_of_getElem? (i := 210) (by decide +kernel)
theorem tw_211 : ((Jvm.Cond.fieldLink "DescribeText" (11 : Nat) "DescribeText" "text" "[B") : Cond) ∈ lw_tbl := List.mem_of_getElem? (i := 211) (by decide +kernel)
theorem tw_212 : ((Jvm.Cond.fieldLink "DescribeText" (18 : Nat) "DescribeText" "reader" "LDescribeText$Reader;") : Cond) ∈ lw_tbl := List.mem_of_getElem? (i := 212) (by decide +kernel)
theorem tw_213 : ((Jvm.Cond.fieldLink "DescribeText" (25 : Nat) "DescribeText" "told" "LDescribeText$Octets;") : Cond) ∈ lw_tbl := List.mem_of_getElem? (i := 213) (by decide +kernel)
theorem tw_214 : ((Jvm.Cond.fieldLink "DescribeText" (29 : Nat) "DescribeText" "sent" "LDescribeText$Octets;") : Cond) ∈ lw_tbl := List.mem_of_getElem? (i := 214) (by decide +kernel)
theorem tw_215 : ((Jvm.Cond.fieldLink "DescribeText" (34 : Nat) "DescribeText" "kept" "[LDescribeText$Edition;") : Cond) ∈ lw_tbl := List.mem_of_getElem? (i := 215) (by decide +kernel)
theorem tw_216 : ((Jvm.Cond.fieldLink "DescribeText" (38 : Nat) "DescribeText" "textLength" "I") : Cond) ∈ lw_tbl := List.mem_of_getElem? (i := 216) (by decide +kernel)
theorem tw_218 : ((Jvm.Cond.fieldLink "DescribeText" (80 : Nat) "DescribeText" "hand" "LDescribeText$Edition;") : Cond) ∈ lw_tbl := List.mem_of_getElem? (i := 218) (by decide +kernel)
theorem tw_219 : ((Jvm.Cond.fieldLink "DescribeText" (43 : Nat) "DescribeText" "ringStart" "LDescribeText$Layer;") : Cond) ∈ lw_tbl := List.mem_of_getElem? (i := 219) (by decide +kernel)
theorem tw_1087 : ((Jvm.Cond.methodLink "DescribeText" (76 : Nat) ({ cls := "DescribeText", name := "serviceNumbered", desc := "(I)LDescribeText$Service;" } : Jvm.MethodName)) : Cond) ∈ lw_tbl := List.mem_of_getElem? (i := 1087) (by decide +kernel)
theorem tw_1089 : ((Jvm.Cond.instanceMethod ({ cls := "DescribeText", name := "serviceNumbered", desc := "(I)LDescribeText$Service;" } : Jvm.MethodName)) : Cond) ∈ lw_tbl := List.mem_of_getElem? (i := 1089) (by decide +kernel)
theorem tw_1090 : ((Jvm.Cond.code ({ cls := "DescribeText", name := "serviceNumbered", desc := "(I)LDescribeText$Service;" } : Jvm.MethodName) prog_1_method_17_code (2 : Nat) (Option.some (Jvm.ClassFile.FieldType.object "DescribeText$Service"))) : Cond) ∈ lw_tbl := List.mem_of_getElem? (i := 1090) (by decide +kernel)
theorem tw_1101 : ((Jvm.Cond.methodLink "DescribeText" (111 : Nat) ({ cls := "DescribeText", name := "parameterNumbered", desc := "(LDescribeText$Service;I)LDescribeText$Parameter;" } : Jvm.MethodName)) : Cond) ∈ lw_tbl := List.mem_of_getElem? (i := 1101) (by decide +kernel)
theorem tw_1102 : ((Jvm.Cond.static ({ cls := "DescribeText", name := "parameterNumbered", desc := "(LDescribeText$Service;I)LDescribeText$Parameter;" } : Jvm.MethodName)) : Cond) ∈ lw_tbl := List.mem_of_getElem? (i := 1102) (by decide +kernel)
theorem tw_1103 : ((Jvm.Cond.code ({ cls := "DescribeText", name := "parameterNumbered", desc := "(LDescribeText$Service;I)LDescribeText$Parameter;" } : Jvm.MethodName) prog_1_method_18_code (2 : Nat) (Option.some (Jvm.ClassFile.FieldType.object "DescribeText$Parameter"))) : Cond) ∈ lw_tbl := List.mem_of_getElem? (i := 1103) (by decide +kernel)
theorem tw_1109 : ((Jvm.Cond.constantLong "DescribeText" (134 : Nat) (-1 : Int64)) : Cond) ∈ lw_tbl := List.mem_of_getElem? (i := 1109) (by decide +kernel)
theorem tw_1179 : ((Jvm.Cond.methodLink "DescribeText" (163 : Nat) ({ cls := "DescribeText$Octets", name := "add", desc := "(I)V" } : Jvm.MethodName)) : Cond) ∈ lw_tbl := List.mem_of_getElem? (i := 1179) (by decide +kernel)
theorem tw_1180 : ((Jvm.Cond.instanceMethod ({ cls := "DescribeText$Octets", name := "add", desc := "(I)V" } : Jvm.MethodName)) : Cond) ∈ lw_tbl := List.mem_of_getElem? (i := 1180) (by decide +kernel)
theorem tw_1181 : ((Jvm.Cond.selects "DescribeText$Octets" ({ cls := "DescribeText$Octets", name := "add", desc := "(I)V" } : Jvm.MethodName) ({ cls := "DescribeText$Octets", name := "add", desc := "(I)V" } : Jvm.MethodName)) : Cond) ∈ lw_tbl := List.mem_of_getElem? (i := 1181) (by decide +kernel)
theorem tw_1182 : ((Jvm.Cond.code ({ cls := "DescribeText$Octets", name := "add", desc := "(I)V" } : Jvm.MethodName) prog_8_method_2_code (2 : Nat) (Option.none : Option Jvm.ClassFile.FieldType)) : Cond) ∈ lw_tbl := List.mem_of_getElem? (i := 1182) (by decide +kernel)
set_option maxRecDepth 100000 in
theorem fX12 : ∀ w ∈ u_ws RX12 TX12 4, w ∈ lw_tbl ∧ (tb_ok w && w.onTables) = true := by decide +kernel
set_option maxRecDepth 100000 in
theorem fX13 : ∀ w ∈ u_ws RX13 TX13 9, w ∈ lw_tbl ∧ (tb_ok w && w.onTables) = true := by decide +kernel
set_option maxRecDepth 100000 in
theorem fX6 : ∀ w ∈ u_ws RX6 TX6 2, w ∈ lw_tbl ∧ (tb_ok w && w.onTables) = true := by decide +kernel
set_option maxRecDepth 100000 in
theorem fX9 : ∀ w ∈ u_ws RX9 TX9 5, w ∈ lw_tbl ∧ (tb_ok w && w.onTables) = true := by decide +kernel
end
section
/-- Octets.at -/
def oc_at (n : Int32) (f : Nat → Int32) (i : Int32) : Int32 := if i < 0 then 0 else if n ≤ i then 0 else if i < 64 then f i.toNatClampNeg &&& 255 else 0
set_option maxHeartbeats 4000000 in
set_option maxRecDepth 100000 in
theorem c_X6_at (l : Launch) (D : va_G) (cy : Nat → ClassId) (A : Nat → Prop) (X : State → Prop) (hst : mk_St A X) (hXT : ∀ U : State, X U → TB U) (G : Nat → Option va_E) (o ro : Nat) (n i : Int32) (f : Nat → Int32) (h0 : G o = some (.inr (7, [.ref ro, .int n]))) (h1 : G ro = some (.inl (cy 0, 64, .inl f))) : Met l yX6_at [.code yX6_at cX6_at 2 (some .int)] ({ frames := 0, cells := 0, slots := 0, locals := 0 }) (mk_Pre D vwCl (tyL cy) A X G [.ref o, .int i]) (va_Qi (fun (r : Int32) (G2 : Nat → Option va_E) => r = oc_at n f i ∧ G2 = G) (mk_B D vwCl A) A) 0 0 A := by
  refine Met.ofW (cc := cX6_at) (maxL := 2) (ret := (some .int)) (by decide) rfl ?_
  intro p e s m args below meth c s₁ B hml hv
  obtain ⟨rfl, hG, hK, hA, hX⟩ := hv
  have hx := B.exec
  have hb := B.bytes
  have hr := B.returns
  have hlocks := B.notSynchronized
  have hT := hXT s hX
  have hown : s.vm.findClass RX6 = some m.cls := findClass_of_methodNamed B.named
  have hf_X6 : ∀ w ∈ u_ws RX6 TX6 2, w.before ([.ref o, .int i] : List Value).toArray s = true := tb_list hT fX6
  have hS : va_S A s.heap s.heap [] := va_S.rf
  have hl := lv_entry ([.ref o, .int i]) (n := 2) (Nat.le_of_ble_eq_true rfl)
  rw [lg_entry_eq]
  generalize (lg_sl ([.ref o, .int i]) ++ List.replicate (2 - (lg_sl ([.ref o, .int i])).length) Slot.unset).toArray = ls at hl ⊢
  have hl : lv_has ls 2 [(0, .ref o), (1, .int i)] := hl
  refine lv_iload_n hx hb dX6_at_0 rfl (lv_at hl 1 rfl) ?_
  refine lv_if_lt (tgt := 21) hx hb dX6_at_1 (by decide) (fun c_1 => ?_) (fun c_1 => ?_)
  · skip
    refine lv_iconst (v := 0) hx hb dX6_at_21 (by decide) ?_
    refine lv_goto (tgt := 35) hx hb dX6_at_22 (by decide) ?_
    exact W.iret (v := 0) hx hb hr (fun t ht hW => ⟨⟨_, _, rfl, ⟨(by unfold oc_at; rw [if_pos c_1]), rfl⟩, mk_end hG ht⟩, hS.F ht⟩) hS.2.2 dX6_at_35
  · skip
    refine lv_iload_n hx hb dX6_at_4 rfl (lv_at hl 1 rfl) ?_
    refine lv_aload_n hx hb dX6_at_5 rfl (lv_at hl 0 rfl) ?_
    refine mm_get (v := .int n) hx hb hf_X6 (fun _ h9 => h9) hown hK hG h0 rfl 1 (by decide) (tb_use hT tw_200) (fun _ h9 => h9) rfl dX6_at_6 ?_
    refine lv_icmp_ge (tgt := 21) hx hb dX6_at_9 (by decide) (fun c_9 => ?_) (fun c_9 => ?_)
    · skip
      refine lv_iconst (v := 0) hx hb dX6_at_21 (by decide) ?_
      refine lv_goto (tgt := 35) hx hb dX6_at_22 (by decide) ?_
      exact W.iret (v := 0) hx hb hr (fun t ht hW => ⟨⟨_, _, rfl, ⟨(by unfold oc_at; rw [if_neg c_1, if_pos c_9]), rfl⟩, mk_end hG ht⟩, hS.F ht⟩) hS.2.2 dX6_at_35
    · skip
      refine lv_iload_n hx hb dX6_at_12 rfl (lv_at hl 1 rfl) ?_
      refine lv_aload_n hx hb dX6_at_13 rfl (lv_at hl 0 rfl) ?_
      refine mm_get (v := .ref ro) hx hb hf_X6 (fun _ h9 => h9) hown hK hG h0 rfl 0 (by decide) (tb_use hT tw_199) (fun _ h9 => h9) rfl dX6_at_14 ?_
      refine mm_alen (v := 64) hx hb hK hG 0 h1 rfl rfl dX6_at_17 ?_
      refine lv_icmp_lt (tgt := 25) hx hb dX6_at_18 (by decide) (fun c_18 => ?_) (fun c_18 => ?_)
      · skip
        refine lv_aload_n hx hb dX6_at_25 rfl (lv_at hl 0 rfl) ?_
        refine mm_get (v := .ref ro) hx hb hf_X6 (fun _ h9 => h9) hown hK hG h0 rfl 0 (by decide) (tb_use hT tw_199) (fun _ h9 => h9) rfl dX6_at_26 ?_
        refine lv_iload_n hx hb dX6_at_29 rfl (lv_at hl 1 rfl) ?_
        refine mm_bald hx hb hK hG 0 h1 rfl (vp_in_lt c_1 c_18 rfl) dX6_at_30 ?_
        refine lv_topi (fun x1 ex1 => ?_)
        refine lv_sipush (v := 255) hx hb dX6_at_31 (by decide) ?_
        refine lv_iand hx hb dX6_at_34 ?_
        exact W.iret (v := (x1 &&& 255)) hx hb hr (fun t ht hW => ⟨⟨_, _, rfl, ⟨(by unfold oc_at; rw [if_neg c_1, if_neg c_9, if_pos c_18]; rw [ex1]), rfl⟩, mk_end hG ht⟩, hS.F ht⟩) hS.2.2 dX6_at_35
      · skip
        refine lv_iconst (v := 0) hx hb dX6_at_21 (by decide) ?_
        refine lv_goto (tgt := 35) hx hb dX6_at_22 (by decide) ?_
        exact W.iret (v := 0) hx hb hr (fun t ht hW => ⟨⟨_, _, rfl, ⟨(by unfold oc_at; rw [if_neg c_1, if_neg c_9, if_neg c_18]), rfl⟩, mk_end hG ht⟩, hS.F ht⟩) hS.2.2 dX6_at_35

set_option maxHeartbeats 4000000 in
set_option maxRecDepth 100000 in
theorem c_X6_add (l : Launch) (D : va_G) (cy : Nat → ClassId) (A : Nat → Prop) (X : State → Prop) (hst : mk_St A X) (hXT : ∀ U : State, X U → TB U) (G : Nat → Option va_E) (o ro : Nat) (n i : Int32) (f : Nat → Int32) (h0 : G o = some (.inr (7, [.ref ro, .int n]))) (h1 : G ro = some (.inl (cy 0, 64, .inl f))) (hn0 : ¬ n < 0) (hn : n < 64) : Met l yX6_add [.code yX6_add cX6_add 2 none] ({ frames := 0, cells := 0, slots := 0, locals := 0 }) (mk_Pre D vwCl (tyL cy) A X G [.ref o, .int i]) (va_Qv (fun (G2 : Nat → Option va_E) => G2 = mm_set (mm_set G ro (.inl (cy 0, 64, .inl (upd f n.toNatClampNeg (vp_nar .byte i.toInt8.toInt32))))) o (.inr (7, [.ref ro, .int (n + 1)]))) (mk_B D vwCl A) A) 0 0 A := by
  refine Met.ofW (cc := cX6_add) (maxL := 2) (ret := none) (by decide) rfl ?_
  intro p e s m args below meth c s₁ B hml hv
  obtain ⟨rfl, hG, hK, hA, hX⟩ := hv
  have hx := B.exec
  have hb := B.bytes
  have hr := B.returns
  have hlocks := B.notSynchronized
  have hT := hXT s hX
  have hown : s.vm.findClass RX6 = some m.cls := findClass_of_methodNamed B.named
  have hf_X6 : ∀ w ∈ u_ws RX6 TX6 2, w.before ([.ref o, .int i] : List Value).toArray s = true := tb_list hT fX6
  have hS : va_S A s.heap s.heap [] := va_S.rf
  have hl := lv_entry ([.ref o, .int i]) (n := 2) (Nat.le_of_ble_eq_true rfl)
  rw [lg_entry_eq]
  generalize (lg_sl ([.ref o, .int i]) ++ List.replicate (2 - (lg_sl ([.ref o, .int i])).length) Slot.unset).toArray = ls at hl ⊢
  have hl : lv_has ls 2 [(0, .ref o), (1, .int i)] := hl
  refine lv_aload_n hx hb dX6_add_0 rfl (lv_at hl 0 rfl) ?_
  refine mm_get (v := .int n) hx hb hf_X6 (fun _ h9 => h9) hown hK hG h0 rfl 1 (by decide) (tb_use hT tw_200) (fun _ h9 => h9) rfl dX6_add_1 ?_
  refine lv_if_lt (tgt := 40) hx hb dX6_add_4 (by decide) (fun c_4 => ?_) (fun c_4 => ?_)
  · skip
    exact absurd c_4 hn0
  · skip
    refine lv_aload_n hx hb dX6_add_7 rfl (lv_at hl 0 rfl) ?_
    refine mm_get (v := .int n) hx hb hf_X6 (fun _ h9 => h9) hown hK hG h0 rfl 1 (by decide) (tb_use hT tw_200) (fun _ h9 => h9) rfl dX6_add_8 ?_
    refine lv_aload_n hx hb dX6_add_11 rfl (lv_at hl 0 rfl) ?_
    refine mm_get (v := .ref ro) hx hb hf_X6 (fun _ h9 => h9) hown hK hG h0 rfl 0 (by decide) (tb_use hT tw_199) (fun _ h9 => h9) rfl dX6_add_12 ?_
    refine mm_alen (v := 64) hx hb hK hG 0 h1 rfl rfl dX6_add_15 ?_
    refine lv_icmp_ge (tgt := 40) hx hb dX6_add_16 (by decide) (fun c_16 => ?_) (fun c_16 => ?_)
    · skip
      exact absurd hn (Int32.not_lt.mpr c_16)
    · skip
      refine lv_aload_n hx hb dX6_add_19 rfl (lv_at hl 0 rfl) ?_
      refine mm_get (v := .ref ro) hx hb hf_X6 (fun _ h9 => h9) hown hK hG h0 rfl 0 (by decide) (tb_use hT tw_199) (fun _ h9 => h9) rfl dX6_add_20 ?_
      refine lv_aload_n hx hb dX6_add_23 rfl (lv_at hl 0 rfl) ?_
      refine mm_get (v := .int n) hx hb hf_X6 (fun _ h9 => h9) hown hK hG h0 rfl 1 (by decide) (tb_use hT tw_200) (fun _ h9 => h9) rfl dX6_add_24 ?_
      refine lv_iload_n hx hb dX6_add_27 rfl (lv_at hl 1 rfl) ?_
      obtain ⟨x1, ex1⟩ : ∃ y, y = (i : Int32).toInt8.toInt32 := ⟨_, rfl⟩
      refine lv_i2b (v := x1) hx hb dX6_add_28 ex1.symm ?_
      refine mm_bast hx hb hK hG hS 0 h1 rfl (vp_in_lt hn0 hn rfl) dX6_add_29 (fun H locs hG hS => ?_)
      obtain ⟨G2, eG2⟩ : ∃ g, g = mm_set G ro (.inl (cy 0, 64, .inl (upd f n.toNatClampNeg (vp_nar .byte x1)))) := ⟨_, rfl⟩
      have hG : mm D vwCl A G2 H := by rw [eG2]; exact hG
      have k3 : G2 o = some (.inr (7, [.ref ro, .int n])) := by rw [eG2]; exact mm_set_of h0 (mm_ne_oa h0 h1)
      have k4 : G2 ro = some (.inl (cy 0, 64, .inl (upd f n.toNatClampNeg (vp_nar .byte x1)))) := by rw [eG2]; exact mm_set_self
      refine lv_aload_n hx hb dX6_add_30 rfl (lv_at hl 0 rfl) ?_
      refine lv_dup hx hb dX6_add_31 rfl ?_
      refine mm_get (v := .int n) hx hb hf_X6 (fun _ h9 => h9) hown hK hG k3 rfl 1 (by decide) (tb_use hT tw_200) (fun _ h9 => h9) rfl dX6_add_32 ?_
      refine lv_iconst (v := 1) hx hb dX6_add_35 (by decide) ?_
      refine lv_iadd hx hb dX6_add_36 ?_
      refine lv_topi (fun x5 ex5 => ?_)
      refine mm_put (v := .int x5) (ty := .int) hx hb hf_X6 (fun _ h9 => h9) tyX6 tyX6_ok nmX6 hown hK hG hS k3 rfl 1 (by decide) (tb_use hT tw_200) (fun _ h9 => h9) rfl (by decide +kernel) rfl rfl (Nat.le_of_ble_eq_true rfl) dX6_add_37 (fun H locs hG hS => ?_)
      obtain ⟨G6, eG6⟩ : ∃ g, g = mm_set G2 o (.inr (7, [.ref ro, .int x5])) := ⟨_, rfl⟩
      have hG : mm D vwCl A G6 H := by rw [eG6]; exact hG
      have k7 : G6 o = some (.inr (7, [.ref ro, .int x5])) := by rw [eG6]; exact mm_set_self
      have k8 : G6 ro = some (.inl (cy 0, 64, .inl (upd f n.toNatClampNeg (vp_nar .byte x1)))) := by rw [eG6]; exact mm_set_of k4 (mm_ne_ao k4 k3)
      exact W.vret hx hb hr (fun t ht hW => ⟨⟨_, rfl, (by subst ex1 eG2 ex5 eG6; rfl), mk_end hG ht⟩, hS.F ht⟩) hS.2.2 dX6_add_40

set_option maxHeartbeats 4000000 in
set_option maxRecDepth 100000 in
theorem c_X6_init (l : Launch) (D : va_G) (cy : Nat → ClassId) (A : Nat → Prop) (X : State → Prop) (hst : mk_St A X) (hXT : ∀ U : State, X U → TB U) (G : Nat → Option va_E) (o : Nat) (h0 : G o = some (.inr (7, [.null, .int 0]))) : Met l yX6_init [.code yX6_init cX6_init 1 none] ({ frames := 1, cells := 1, slots := 64, locals := 12 }) (mk_Pre D vwCl (tyL cy) A X G [.ref o]) (va_Qv (fun (G2 : Nat → Option va_E) => ∃ ro : Nat, G ro = none ∧ G2 o = some (.inr (7, [.ref ro, .int 0])) ∧ G2 ro = some (.inl (cy 0, 64, .inl (fun _ => 0))) ∧ ∀ (x : Nat) (e : va_E), G x = some e → x ≠ o → G2 x = some e) (mk_B D vwCl A) A) 1 64 A := by
  refine Met.ofW (cc := cX6_init) (maxL := 1) (ret := none) (by decide) rfl ?_
  intro p e s m args below meth c s₁ B hml hv
  obtain ⟨rfl, hG, hK, hA, hX⟩ := hv
  have hx := B.exec
  have hb := B.bytes
  have hr := B.returns
  have hlocks := B.notSynchronized
  have hT := hXT s hX
  have hown : s.vm.findClass RX6 = some m.cls := findClass_of_methodNamed B.named
  have hin : meth.name = "<init>" := (name_of_methodNamed B.named B.method).1
  have hf_X6 : ∀ w ∈ u_ws RX6 TX6 2, w.before ([.ref o] : List Value).toArray s = true := tb_list hT fX6
  have hS : va_S A s.heap s.heap [] := va_S.rf
  have hl := lv_entry ([.ref o]) (n := 1) (Nat.le_of_ble_eq_true rfl)
  rw [lg_entry_eq]
  generalize (lg_sl ([.ref o]) ++ List.replicate (1 - (lg_sl ([.ref o])).length) Slot.unset).toArray = ls at hl ⊢
  have hl : lv_has ls 1 [(0, .ref o)] := hl
  refine lv_aload_n hx hb dX6_init_0 rfl (lv_at hl 0 rfl) ?_
  refine W.objInit hx hb hown (tb_use hT tw_198) (tb_use hT tw_144) (tb_use hT tw_145) rfl (by rw [hml]; exact hl.1) rfl dX6_init_1 (Nat.le_of_ble_eq_true rfl) (Nat.le_of_ble_eq_true rfl) ?_
  refine W.eq (g2 := F0 m 4 ls []) rfl ?_
  refine lv_aload_n hx hb dX6_init_4 rfl (lv_at hl 0 rfl) ?_
  refine lv_bipush (v := 64) hx hb dX6_init_5 (by decide) ?_
  refine mm_newa (n := 64) (atype := .byte) (ty := .byte) (N' := 64) (a0 := (64, .inl (fun _ => 0))) hx hb (tb_arr hT tw_174) rfl hK hG hS hA 0 rfl (fun cA => rfl) (by decide) (by decide) (by decide) (by exact Nat.le_of_ble_eq_true rfl) (by exact Nat.le_of_ble_eq_true rfl) dX6_init_7 (fun q1 H hn_q1 hG hS => ?_)
  obtain ⟨G2, eG2⟩ : ∃ g, g = mm_set G q1 (.inl (cy 0, 64, .inl (fun _ => 0))) := ⟨_, rfl⟩
  have hG : mm D vwCl A G2 H := by rw [eG2]; exact hG
  have k3 : G2 o = some (.inr (7, [.null, .int 0])) := by rw [eG2]; exact mm_set_new h0 hn_q1
  have k4 : G2 q1 = some (.inl (cy 0, 64, .inl (fun _ => 0))) := by rw [eG2]; exact mm_set_self
  refine mm_putF (v := .ref q1) (ty := .array .byte) hx hb hf_X6 (fun _ h9 => h9) tyX6 tyX6_ok nmX6 hown hK hG hS k3 rfl 0 (by decide) (tb_use hT tw_199) (fun _ h9 => h9) rfl hin rfl (by decide +kernel) rfl rfl (Nat.le_of_ble_eq_true rfl) dX6_init_9 (fun H locs hG hS => ?_)
  obtain ⟨G5, eG5⟩ : ∃ g, g = mm_set G2 o (.inr (7, [.ref q1, .int 0])) := ⟨_, rfl⟩
  have hG : mm D vwCl A G5 H := by rw [eG5]; exact hG
  have k6 : G5 o = some (.inr (7, [.ref q1, .int 0])) := by rw [eG5]; exact mm_set_self
  have k7 : G5 q1 = some (.inl (cy 0, 64, .inl (fun _ => 0))) := by rw [eG5]; exact mm_set_of k4 (mm_ne_ao k4 k3)
  have hfr : ∀ (x : Nat) (e : va_E), G x = some e → x ≠ o → G5 x = some e := by
    intro x e z0 n_o
    have n_q1 : x ≠ q1 := fun z => by rw [z, hn_q1] at z0; cases z0
    have z1 : G2 x = some e := by rw [eG2]; exact mm_set_of z0 n_q1
    have z2 : G5 x = some e := by rw [eG5]; exact mm_set_of z1 n_o
    exact z2
  exact W.vret hx hb hr (fun t ht hW => ⟨⟨_, rfl, ⟨q1, hn_q1, k6, k7, hfr⟩, mk_end hG ht⟩, hS.F ht⟩) hS.2.2 dX6_init_12
end
section
set_option maxHeartbeats 4000000 in
set_option maxRecDepth 100000 in
theorem c_X12_init (l : Launch) (D : va_G) (cy : Nat → ClassId) (A : Nat → Prop) (X : State → Prop) (hst : mk_St A X) (hXT : ∀ U : State, X U → TB U) (G : Nat → Option va_E) (o : Nat) (h0 : G o = some (.inr (13, [.null, .null, .null, .int 0]))) : Met l yX12_init [.code yX12_init cX12_init 1 none] ({ frames := 1, cells := 3, slots := 6003, locals := 12 }) (mk_Pre D vwCl (tyL cy) A X G [.ref o]) (va_Qv (fun (G2 : Nat → Option va_E) => ∃ ks ss vs : Nat, G2 o = some (.inr (13, [.ref ks, .ref ss, .ref vs, .int 0])) ∧ G2 ks = some (.inl (cy 5, 2001, .inr (.inr (.inr (.inr (fun _ => none)))))) ∧ G2 ss = some (.inl (cy 1, 2001, .inl (fun _ => 0))) ∧ G2 vs = some (.inl (cy 2, 2001, .inr (.inl (fun _ => 0)))) ∧ ∀ (x : Nat) (e : va_E), G x = some e → x ≠ o → G2 x = some e) (mk_B D vwCl A) A) 3 6003 A := by
  refine Met.ofW (cc := cX12_init) (maxL := 1) (ret := none) (by decide) rfl ?_
  intro p e s m args below meth c s₁ B hml hv
  obtain ⟨rfl, hG, hK, hA, hX⟩ := hv
  have hx := B.exec
  have hb := B.bytes
  have hr := B.returns
  have hlocks := B.notSynchronized
  have hT := hXT s hX
  have hown : s.vm.findClass RX12 = some m.cls := findClass_of_methodNamed B.named
  have hin : meth.name = "<init>" := (name_of_methodNamed B.named B.method).1
  have hf_X12 : ∀ w ∈ u_ws RX12 TX12 4, w.before ([.ref o] : List Value).toArray s = true := tb_list hT fX12
  have hS : va_S A s.heap s.heap [] := va_S.rf
  have hl := lv_entry ([.ref o]) (n := 1) (Nat.le_of_ble_eq_true rfl)
  rw [lg_entry_eq]
  generalize (lg_sl ([.ref o]) ++ List.replicate (1 - (lg_sl ([.ref o])).length) Slot.unset).toArray = ls at hl ⊢
  have hl : lv_has ls 1 [(0, .ref o)] := hl
  refine lv_aload_n hx hb dX12_init_0 rfl (lv_at hl 0 rfl) ?_
  refine W.objInit hx hb hown (tb_use hT tw_157) (tb_use hT tw_144) (tb_use hT tw_145) rfl (by rw [hml]; exact hl.1) rfl dX12_init_1 (Nat.le_of_ble_eq_true rfl) (Nat.le_of_ble_eq_true rfl) ?_
  refine W.eq (g2 := F0 m 4 ls []) rfl ?_
  refine lv_aload_n hx hb dX12_init_4 rfl (lv_at hl 0 rfl) ?_
  refine lv_sipush (v := 2001) hx hb dX12_init_5 (by decide) ?_
  refine mm_newq (n := 2001) (N' := 2001) hx hb hown (tb_use hT tw_158) (hT _ tw_159 rfl) hK hG hS hA 5 rfl (by decide) (by decide) (by decide) (by exact Nat.le_of_ble_eq_true rfl) (by exact Nat.le_of_ble_eq_true rfl) dX12_init_8 (fun q1 H hn_q1 hG hS => ?_)
  obtain ⟨G2, eG2⟩ : ∃ g, g = mm_set G q1 (.inl (cy 5, 2001, .inr (.inr (.inr (.inr (fun _ => none)))))) := ⟨_, rfl⟩
  have hG : mm D vwCl A G2 H := by rw [eG2]; exact hG
  have k3 : G2 o = some (.inr (13, [.null, .null, .null, .int 0])) := by rw [eG2]; exact mm_set_new h0 hn_q1
  have k4 : G2 q1 = some (.inl (cy 5, 2001, .inr (.inr (.inr (.inr (fun _ => none)))))) := by rw [eG2]; exact mm_set_self
  refine mm_putF (v := .ref q1) (ty := .array (.object "DescribeText$Token")) hx hb hf_X12 (fun _ h9 => h9) tyX12 tyX12_ok nmX12 hown hK hG hS k3 rfl 0 (by decide) (tb_use hT tw_160) (fun _ h9 => h9) rfl hin rfl (by decide +kernel) rfl rfl (Nat.le_of_ble_eq_true rfl) dX12_init_11 (fun H locs hG hS => ?_)
  obtain ⟨G5, eG5⟩ : ∃ g, g = mm_set G2 o (.inr (13, [.ref q1, .null, .null, .int 0])) := ⟨_, rfl⟩
  have hG : mm D vwCl A G5 H := by rw [eG5]; exact hG
  have k6 : G5 o = some (.inr (13, [.ref q1, .null, .null, .int 0])) := by rw [eG5]; exact mm_set_self
  have k7 : G5 q1 = some (.inl (cy 5, 2001, .inr (.inr (.inr (.inr (fun _ => none)))))) := by rw [eG5]; exact mm_set_of k4 (mm_ne_ao k4 k3)
  refine lv_aload_n hx hb dX12_init_14 rfl (lv_at hl 0 rfl) ?_
  refine lv_sipush (v := 2001) hx hb dX12_init_15 (by decide) ?_
  refine mm_newa (n := 2001) (atype := .int) (ty := .int) (N' := 2001) (a0 := (2001, .inl (fun _ => 0))) hx hb (tb_arr hT tw_175) rfl hK hG hS hA 1 rfl (fun cA => rfl) (by decide) (by decide) (by decide) (by exact Nat.le_of_ble_eq_true rfl) (by exact Nat.le_of_ble_eq_true rfl) dX12_init_18 (fun q8 H hn_q8 hG hS => ?_)
  obtain ⟨G9, eG9⟩ : ∃ g, g = mm_set G5 q8 (.inl (cy 1, 2001, .inl (fun _ => 0))) := ⟨_, rfl⟩
  have hG : mm D vwCl A G9 H := by rw [eG9]; exact hG
  have ne_q1_q8 : q1 ≠ q8 := mm_ne_new k7 hn_q8
  have k10 : G9 o = some (.inr (13, [.ref q1, .null, .null, .int 0])) := by rw [eG9]; exact mm_set_new k6 hn_q8
  have k11 : G9 q1 = some (.inl (cy 5, 2001, .inr (.inr (.inr (.inr (fun _ => none)))))) := by rw [eG9]; exact mm_set_new k7 hn_q8
  have k12 : G9 q8 = some (.inl (cy 1, 2001, .inl (fun _ => 0))) := by rw [eG9]; exact mm_set_self
  refine mm_putF (v := .ref q8) (ty := .array .int) hx hb hf_X12 (fun _ h9 => h9) tyX12 tyX12_ok nmX12 hown hK hG hS k10 rfl 1 (by decide) (tb_use hT tw_161) (fun _ h9 => h9) rfl hin rfl (by decide +kernel) rfl rfl (Nat.le_of_ble_eq_true rfl) dX12_init_20 (fun H locs hG hS => ?_)
  obtain ⟨G13, eG13⟩ : ∃ g, g = mm_set G9 o (.inr (13, [.ref q1, .ref q8, .null, .int 0])) := ⟨_, rfl⟩
  have hG : mm D vwCl A G13 H := by rw [eG13]; exact hG
  have k14 : G13 o = some (.inr (13, [.ref q1, .ref q8, .null, .int 0])) := by rw [eG13]; exact mm_set_self
  have k15 : G13 q1 = some (.inl (cy 5, 2001, .inr (.inr (.inr (.inr (fun _ => none)))))) := by rw [eG13]; exact mm_set_of k11 (mm_ne_ao k11 k10)
  have k16 : G13 q8 = some (.inl (cy 1, 2001, .inl (fun _ => 0))) := by rw [eG13]; exact mm_set_of k12 (mm_ne_ao k12 k10)
  refine lv_aload_n hx hb dX12_init_23 rfl (lv_at hl 0 rfl) ?_
  refine lv_sipush (v := 2001) hx hb dX12_init_24 (by decide) ?_
  refine mm_newa (n := 2001) (atype := .long) (ty := .long) (N' := 2001) (a0 := (2001, .inr (.inl (fun _ => 0)))) hx hb (tb_arr hT tw_176) rfl hK hG hS hA 2 rfl (fun cA => rfl) (by decide) (by decide) (by decide) (by exact Nat.le_of_ble_eq_true rfl) (by exact Nat.le_of_ble_eq_true rfl) dX12_init_27 (fun q17 H hn_q17 hG hS => ?_)
  obtain ⟨G18, eG18⟩ : ∃ g, g = mm_set G13 q17 (.inl (cy 2, 2001, .inr (.inl (fun _ => 0)))) := ⟨_, rfl⟩
  have hG : mm D vwCl A G18 H := by rw [eG18]; exact hG
  have ne_q1_q17 : q1 ≠ q17 := mm_ne_new k15 hn_q17
  have ne_q8_q17 : q8 ≠ q17 := mm_ne_new k16 hn_q17
  have k19 : G18 o = some (.inr (13, [.ref q1, .ref q8, .null, .int 0])) := by rw [eG18]; exact mm_set_new k14 hn_q17
  have k20 : G18 q1 = some (.inl (cy 5, 2001, .inr (.inr (.inr (.inr (fun _ => none)))))) := by rw [eG18]; exact mm_set_new k15 hn_q17
  have k21 : G18 q8 = some (.inl (cy 1, 2001, .inl (fun _ => 0))) := by rw [eG18]; exact mm_set_new k16 hn_q17
  have k22 : G18 q17 = some (.inl (cy 2, 2001, .inr (.inl (fun _ => 0)))) := by rw [eG18]; exact mm_set_self
  refine mm_putF (v := .ref q17) (ty := .array .long) hx hb hf_X12 (fun _ h9 => h9) tyX12 tyX12_ok nmX12 hown hK hG hS k19 rfl 2 (by decide) (tb_use hT tw_162) (fun _ h9 => h9) rfl hin rfl (by decide +kernel) rfl rfl (Nat.le_of_ble_eq_true rfl) dX12_init_29 (fun H locs hG hS => ?_)
  obtain ⟨G23, eG23⟩ : ∃ g, g = mm_set G18 o (.inr (13, [.ref q1, .ref q8, .ref q17, .int 0])) := ⟨_, rfl⟩
  have hG : mm D vwCl A G23 H := by rw [eG23]; exact hG
  have k24 : G23 o = some (.inr (13, [.ref q1, .ref q8, .ref q17, .int 0])) := by rw [eG23]; exact mm_set_self
  have k25 : G23 q1 = some (.inl (cy 5, 2001, .inr (.inr (.inr (.inr (fun _ => none)))))) := by rw [eG23]; exact mm_set_of k20 (mm_ne_ao k20 k19)
  have k26 : G23 q8 = some (.inl (cy 1, 2001, .inl (fun _ => 0))) := by rw [eG23]; exact mm_set_of k21 (mm_ne_ao k21 k19)
  have k27 : G23 q17 = some (.inl (cy 2, 2001, .inr (.inl (fun _ => 0)))) := by rw [eG23]; exact mm_set_of k22 (mm_ne_ao k22 k19)
  have hfr : ∀ (x : Nat) (e : va_E), G x = some e → x ≠ o → G23 x = some e := by
    intro x e z0 n_o
    have n_q1 : x ≠ q1 := fun z => by rw [z, hn_q1] at z0; cases z0
    have z1 : G2 x = some e := by rw [eG2]; exact mm_set_of z0 n_q1
    have z2 : G5 x = some e := by rw [eG5]; exact mm_set_of z1 n_o
    have n_q8 : x ≠ q8 := fun z => by rw [z, hn_q8] at z2; cases z2
    have z3 : G9 x = some e := by rw [eG9]; exact mm_set_of z2 n_q8
    have z4 : G13 x = some e := by rw [eG13]; exact mm_set_of z3 n_o
    have n_q17 : x ≠ q17 := fun z => by rw [z, hn_q17] at z4; cases z4
    have z5 : G18 x = some e := by rw [eG18]; exact mm_set_of z4 n_q17
    have z6 : G23 x = some e := by rw [eG23]; exact mm_set_of z5 n_o
    exact z6
  exact W.vret hx hb hr (fun t ht hW => ⟨⟨_, rfl, ⟨q1, q8, q17, k24, k25, k26, k27, hfr⟩, mk_end hG ht⟩, hS.F ht⟩) hS.2.2 dX12_init_32

set_option maxHeartbeats 4000000 in
set_option maxRecDepth 100000 in
theorem c_X9_init (l : Launch) (D : va_G) (cy : Nat → ClassId) (A : Nat → Prop) (X : State → Prop) (hst : mk_St A X) (hXT : ∀ U : State, X U → TB U) (G : Nat → Option va_E) (o : Nat) (h0 : G o = some (.inr (10, [.null, .null, .null, .int 0, .int 0]))) : Met l yX9_init [.code yX9_init cX9_init 1 none] ({ frames := 2, cells := 5, slots := 6010, locals := 32 }) (mk_Pre D vwCl (tyL cy) A X G [.ref o]) (va_Qv (fun (G2 : Nat → Option va_E) => ∃ tk ow ks ss vs : Nat, G2 o = some (.inr (10, [.ref tk, .ref ow, .null, .int 0, .int 0])) ∧ G2 tk = some (.inr (13, [.ref ks, .ref ss, .ref vs, .int 0])) ∧ G2 ow = some (.inl (cy 1, 3, .inl (fun _ => 0))) ∧ G2 ks = some (.inl (cy 5, 2001, .inr (.inr (.inr (.inr (fun _ => none)))))) ∧ G2 ss = some (.inl (cy 1, 2001, .inl (fun _ => 0))) ∧ G2 vs = some (.inl (cy 2, 2001, .inr (.inl (fun _ => 0)))) ∧ ∀ (x : Nat) (e : va_E), G x = some e → x ≠ o → G2 x = some e) (mk_B D vwCl A) A) 5 6010 A := by
  refine Met.ofW (cc := cX9_init) (maxL := 1) (ret := none) (by decide) rfl ?_
  intro p e s m args below meth c s₁ B hml hv
  obtain ⟨rfl, hG, hK, hA, hX⟩ := hv
  have hx := B.exec
  have hb := B.bytes
  have hr := B.returns
  have hlocks := B.notSynchronized
  have hT := hXT s hX
  have hown : s.vm.findClass RX9 = some m.cls := findClass_of_methodNamed B.named
  have hin : meth.name = "<init>" := (name_of_methodNamed B.named B.method).1
  have hf_X12 : ∀ w ∈ u_ws RX12 TX12 4, w.before ([.ref o] : List Value).toArray s = true := tb_list hT fX12
  have hf_X9 : ∀ w ∈ u_ws RX9 TX9 5, w.before ([.ref o] : List Value).toArray s = true := tb_list hT fX9
  have hS : va_S A s.heap s.heap [] := va_S.rf
  have hl := lv_entry ([.ref o]) (n := 1) (Nat.le_of_ble_eq_true rfl)
  rw [lg_entry_eq]
  generalize (lg_sl ([.ref o]) ++ List.replicate (1 - (lg_sl ([.ref o])).length) Slot.unset).toArray = ls at hl ⊢
  have hl : lv_has ls 1 [(0, .ref o)] := hl
  refine lv_aload_n hx hb dX9_init_0 rfl (lv_at hl 0 rfl) ?_
  refine W.objInit hx hb hown (tb_use hT tw_151) (tb_use hT tw_144) (tb_use hT tw_145) rfl (by rw [hml]; exact hl.1) rfl dX9_init_1 (Nat.le_of_ble_eq_true rfl) (Nat.le_of_ble_eq_true rfl) ?_
  refine W.eq (g2 := F0 m 4 ls []) rfl ?_
  refine lv_aload_n hx hb dX9_init_4 rfl (lv_at hl 0 rfl) ?_
  refine mm_new (ci := 13) (fs := [.null, .null, .null, .int 0]) hx hb hf_X12 (fun _ h9 => h9) tyX12 tyX12_ok hown (tb_use hT tw_152) (tb_use hT tw_153) (tb_use hT tw_107) hK hG hS hA rfl (fun j hj => by rcases (show j = 0 ∨ j = 1 ∨ j = 2 ∨ j = 3 by omega) with rfl | rfl | rfl | rfl <;> rfl) (by exact Nat.le_of_ble_eq_true rfl) (by exact Nat.le_of_ble_eq_true rfl) dX9_init_5 (fun q1 H hn_q1 hG hS => ?_)
  obtain ⟨G2, eG2⟩ : ∃ g, g = mm_set G q1 (.inr (13, [.null, .null, .null, .int 0])) := ⟨_, rfl⟩
  have hG : mm D vwCl A G2 H := by rw [eG2]; exact hG
  have k3 : G2 o = some (.inr (10, [.null, .null, .null, .int 0, .int 0])) := by rw [eG2]; exact mm_set_new h0 hn_q1
  have k4 : G2 q1 = some (.inr (13, [.null, .null, .null, .int 0])) := by rw [eG2]; exact mm_set_self
  refine lv_dup hx hb dX9_init_8 rfl ?_
  refine va_callv (va_runIN (As := []) (rest := [.ref q1, .ref o]) ⟨hx, hb, hml, hown, (fun _ h9 => absurd h9 List.not_mem_nil : ∀ w ∈ ([] : List Cond), w.before _ s = true)⟩ (c_X12_init l D cy A X hst hXT G2 q1 k4) ⟨tb_cn (host := "DescribeText") 0 hT tw_156 tw_107 tw_154 rfl rfl (by decide +kernel) ⟨Nat.le_of_ble_eq_true rfl, Nat.le_of_ble_eq_true rfl⟩, rfl, (tb_use hT tw_155)⟩ (mk_preS hst hG hK hA hX hS) rfl rfl hl.1 rfl (lv_room (Nat.le_of_ble_eq_true rfl)) dX9_init_9 ⟨Nat.le_of_ble_eq_true rfl, Nat.le_of_ble_eq_true rfl⟩) hS (fun q _ h => h) (fun q h => h) (fun  G5 t H1 locs ht hvm hw hB hz1 hk1 hS => ?_)
  have hG : mm D vwCl A G5 H1 := by rw [← ht]; exact hB
  clear hB hz1 hk1 hvm ht
  generalize H1 = H at hG hS ⊢
  obtain ⟨q6, q7, q8, h9_o, h9_1, h9_2, h9_3, h9_f⟩ := hw
  have k10 : G5 o = some (.inr (10, [.null, .null, .null, .int 0, .int 0])) := h9_f _ _ k3 (mm_ne_oo k3 k4 (by decide))
  refine mm_putF (v := .ref q1) (ty := .object "DescribeText$Tokens") hx hb hf_X9 (fun _ h9 => h9) tyX9 tyX9_ok nmX9 hown hK hG hS k10 rfl 0 (by decide) (tb_use hT tw_177) (fun _ h9 => h9) rfl hin rfl (by decide +kernel) rfl rfl (Nat.le_of_ble_eq_true rfl) dX9_init_12 (fun H locs hG hS => ?_)
  obtain ⟨G11, eG11⟩ : ∃ g, g = mm_set G5 o (.inr (10, [.ref q1, .null, .null, .int 0, .int 0])) := ⟨_, rfl⟩
  have hG : mm D vwCl A G11 H := by rw [eG11]; exact hG
  have k12 : G11 o = some (.inr (10, [.ref q1, .null, .null, .int 0, .int 0])) := by rw [eG11]; exact mm_set_self
  have k13 : G11 q1 = some (.inr (13, [.ref q6, .ref q7, .ref q8, .int 0])) := by rw [eG11]; exact mm_set_of h9_o (mm_ne_oo h9_o k10 (by decide))
  have k14 : G11 q6 = some (.inl (cy 5, 2001, .inr (.inr (.inr (.inr (fun _ => none)))))) := by rw [eG11]; exact mm_set_of h9_1 (mm_ne_ao h9_1 k10)
  have k15 : G11 q7 = some (.inl (cy 1, 2001, .inl (fun _ => 0))) := by rw [eG11]; exact mm_set_of h9_2 (mm_ne_ao h9_2 k10)
  have k16 : G11 q8 = some (.inl (cy 2, 2001, .inr (.inl (fun _ => 0)))) := by rw [eG11]; exact mm_set_of h9_3 (mm_ne_ao h9_3 k10)
  refine lv_aload_n hx hb dX9_init_15 rfl (lv_at hl 0 rfl) ?_
  refine lv_iconst (v := 3) hx hb dX9_init_16 (by decide) ?_
  refine mm_newa (n := 3) (atype := .int) (ty := .int) (N' := 3) (a0 := (3, .inl (fun _ => 0))) hx hb (tb_arr hT tw_175) rfl hK hG hS hA 1 rfl (fun cA => rfl) (by decide) (by decide) (by decide) (by exact Nat.le_of_ble_eq_true rfl) (by exact Nat.le_of_ble_eq_true rfl) dX9_init_17 (fun q17 H hn_q17 hG hS => ?_)
  obtain ⟨G18, eG18⟩ : ∃ g, g = mm_set G11 q17 (.inl (cy 1, 3, .inl (fun _ => 0))) := ⟨_, rfl⟩
  have hG : mm D vwCl A G18 H := by rw [eG18]; exact hG
  have k19 : G18 o = some (.inr (10, [.ref q1, .null, .null, .int 0, .int 0])) := by rw [eG18]; exact mm_set_new k12 hn_q17
  have k20 : G18 q1 = some (.inr (13, [.ref q6, .ref q7, .ref q8, .int 0])) := by rw [eG18]; exact mm_set_new k13 hn_q17
  have k21 : G18 q6 = some (.inl (cy 5, 2001, .inr (.inr (.inr (.inr (fun _ => none)))))) := by rw [eG18]; exact mm_set_new k14 hn_q17
  have k22 : G18 q7 = some (.inl (cy 1, 2001, .inl (fun _ => 0))) := by rw [eG18]; exact mm_set_new k15 hn_q17
  have k23 : G18 q8 = some (.inl (cy 2, 2001, .inr (.inl (fun _ => 0)))) := by rw [eG18]; exact mm_set_new k16 hn_q17
  have k24 : G18 q17 = some (.inl (cy 1, 3, .inl (fun _ => 0))) := by rw [eG18]; exact mm_set_self
  refine mm_putF (v := .ref q17) (ty := .array .int) hx hb hf_X9 (fun _ h9 => h9) tyX9 tyX9_ok nmX9 hown hK hG hS k19 rfl 1 (by decide) (tb_use hT tw_178) (fun _ h9 => h9) rfl hin rfl (by decide +kernel) rfl rfl (Nat.le_of_ble_eq_true rfl) dX9_init_19 (fun H locs hG hS => ?_)
  obtain ⟨G25, eG25⟩ : ∃ g, g = mm_set G18 o (.inr (10, [.ref q1, .ref q17, .null, .int 0, .int 0])) := ⟨_, rfl⟩
  have hG : mm D vwCl A G25 H := by rw [eG25]; exact hG
  have k26 : G25 o = some (.inr (10, [.ref q1, .ref q17, .null, .int 0, .int 0])) := by rw [eG25]; exact mm_set_self
  have k27 : G25 q1 = some (.inr (13, [.ref q6, .ref q7, .ref q8, .int 0])) := by rw [eG25]; exact mm_set_of k20 (mm_ne_oo k20 k19 (by decide))
  have k28 : G25 q6 = some (.inl (cy 5, 2001, .inr (.inr (.inr (.inr (fun _ => none)))))) := by rw [eG25]; exact mm_set_of k21 (mm_ne_ao k21 k19)
  have k29 : G25 q7 = some (.inl (cy 1, 2001, .inl (fun _ => 0))) := by rw [eG25]; exact mm_set_of k22 (mm_ne_ao k22 k19)
  have k30 : G25 q8 = some (.inl (cy 2, 2001, .inr (.inl (fun _ => 0)))) := by rw [eG25]; exact mm_set_of k23 (mm_ne_ao k23 k19)
  have k31 : G25 q17 = some (.inl (cy 1, 3, .inl (fun _ => 0))) := by rw [eG25]; exact mm_set_of k24 (mm_ne_ao k24 k19)
  have hfr : ∀ (x : Nat) (e : va_E), G x = some e → x ≠ o → G25 x = some e := by
    intro x e z0 n_o
    have n_q1 : x ≠ q1 := fun z => by rw [z, hn_q1] at z0; cases z0
    have z1 : G2 x = some e := by rw [eG2]; exact mm_set_of z0 n_q1
    have z2 : G5 x = some e := h9_f x e z1 n_q1
    have z3 : G11 x = some e := by rw [eG11]; exact mm_set_of z2 n_o
    have n_q17 : x ≠ q17 := fun z => by rw [z, hn_q17] at z3; cases z3
    have z4 : G18 x = some e := by rw [eG18]; exact mm_set_of z3 n_q17
    have z5 : G25 x = some e := by rw [eG25]; exact mm_set_of z4 n_o
    exact z5
  exact W.vret hx hb hr (fun t ht hW => ⟨⟨_, rfl, ⟨q1, q17, q6, q7, q8, k26, k27, k31, k28, k29, k30, hfr⟩, mk_end hG ht⟩, hS.F ht⟩) hS.2.2 dX9_init_22
end
section
/-- an octet more for the text, if it is not 0 and there is room -/
def sg_1 (x : Int32) (q : Int32 × (Nat → Int32)) : Int32 × (Nat → Int32) := if x = 0 then q else if 2000 ≤ q.1 then q else (q.1 + 1, upd q.2 q.1.toNatClampNeg (vp_nar .byte x.toInt8.toInt32))
def sg_o (cv : Int32) (k : Int32) : Int32 := (cv.toUInt32 >>> (k.toUInt32 &&& Int32.toUInt32 31)).toInt32 &&& 255
/-- n octets, from shift k down -/
def sg_n (cv : Int32) : Nat → Int32 → Int32 × (Nat → Int32) → Int32 × (Nat → Int32)
  | 0, _, q => q
  | n + 1, k, q => sg_n cv n (k + -8) (sg_1 (sg_o cv k) q)
def sg_k (n : Nat) : Int32 := nI (8 * n) + -8
theorem sg_k_pos : ∀ n, n < 4 → ¬ sg_k (n + 1) < 0 ∧ sg_k (n + 1) + -8 = sg_k n := by decide
theorem sg_k_0 : sg_k 0 < 0 := by decide
theorem sg_inc {x : Int32} (h0 : ¬ x < 0) (h : ¬ (2000 : Int32) ≤ x) : ¬ x + 1 < 0 := by
  obtain ⟨j, hj, rfl⟩ := nI_of h0
  have : j < 2000 := by
    rcases Nat.lt_or_ge j 2000 with q | q
    · exact q
    · exact absurd (nI_le q hj) h
  rw [nI_1]
  exact nI_pos (by omega)
set_option maxHeartbeats 4000000 in
set_option maxRecDepth 100000 in
theorem c_X13_sign (l : Launch) (D : va_G) (cy : Nat → ClassId) (A : Nat → Prop) (X : State → Prop) (hst : mk_St A X) (hXT : ∀ U : State, X U → TB U) (G : Nat → Option va_E) (o tx rd to se kp : Nat) (hd rg : Option Nat) (len kc cv L2 : Int32) (f f2 : Nat → Int32) (h0 : G o = some (.inr (14, [.ref tx, .ref rd, .ref to, .ref se, .ref kp, .int len, .int kc, va_rf hd, va_rf rg]))) (h1 : G tx = some (.inl (cy 0, 2000, .inl f))) (hl0 : ¬ len < 0) (hfin : sg_n cv 4 24 (len, f) = (L2, f2)) : Met l yX13_sign [.code yX13_sign cX13_sign 4 none] ({ frames := 0, cells := 0, slots := 0, locals := 0 }) (mk_Pre D vwCl (tyL cy) A X G [.ref o, .int cv]) (va_Qv (fun (G2 : Nat → Option va_E) => G2 o = some (.inr (14, [.ref tx, .ref rd, .ref to, .ref se, .ref kp, .int L2, .int kc, va_rf hd, va_rf rg])) ∧ G2 tx = some (.inl (cy 0, 2000, .inl f2)) ∧ ¬ L2 < 0 ∧ ∀ (x : Nat) (e : va_E), G x = some e → x ≠ o → x ≠ tx → G2 x = some e) (mk_B D vwCl A) A) 0 0 A := by
  refine Met.ofW (cc := cX13_sign) (maxL := 4) (ret := none) (by decide) rfl ?_
  intro p e s m args below meth c s₁ B hml hv
  obtain ⟨rfl, hG, hK, hA, hX⟩ := hv
  have hx := B.exec
  have hb := B.bytes
  have hr := B.returns
  have hlocks := B.notSynchronized
  have hT := hXT s hX
  have hown : s.vm.findClass RX13 = some m.cls := findClass_of_methodNamed B.named
  have hf_X13 : ∀ w ∈ u_ws RX13 TX13 9, w.before ([.ref o, .int cv] : List Value).toArray s = true := tb_list hT fX13
  have hS : va_S A s.heap s.heap [] := va_S.rf
  have hl := lv_entry ([.ref o, .int cv]) (n := 4) (Nat.le_of_ble_eq_true rfl)
  rw [lg_entry_eq]
  generalize (lg_sl ([.ref o, .int cv]) ++ List.replicate (4 - (lg_sl ([.ref o, .int cv])).length) Slot.unset).toArray = ls at hl ⊢
  have hl : lv_has ls 4 [(0, .ref o), (1, .int cv)] := hl
  have lp : ∀ (n : Nat) (k len : Int32) (f : Nat → Int32), (n ≤ 4) → (k = sg_k n) → (¬ len < 0) → (sg_n cv n k (len, f) = (L2, f2)) → ∀ (Gv : Nat → Option va_E), (Gv o = some (.inr (14, [.ref tx, .ref rd, .ref to, .ref se, .ref kp, .int len, .int kc, va_rf hd, va_rf rg]))) → (Gv tx = some (.inl (cy 0, 2000, .inl f))) → (∀ (x : Nat) (e : va_E), G x = some e → x ≠ o → x ≠ tx → Gv x = some e) → ∀ (H : Heap) (locs : List Loc), mm D vwCl A Gv H → va_S A s.heap H locs → ∀ ls : Array Slot, lv_has ls 4 [(0, .ref o), (1, .int cv), (2, .int k)] → W p l e (headSpec [.code yX13_sign cX13_sign 4 none] ({ frames := 0, cells := 0, slots := 0, locals := 0 })).room s m ([.ref o, .int cv] : List Value).toArray below meth c H locs 0 0 (MQ below (va_Qv (fun (G2 : Nat → Option va_E) => G2 o = some (.inr (14, [.ref tx, .ref rd, .ref to, .ref se, .ref kp, .int L2, .int kc, va_rf hd, va_rf rg])) ∧ G2 tx = some (.inl (cy 0, 2000, .inl f2)) ∧ ¬ L2 < 0 ∧ ∀ (x : Nat) (e : va_E), G x = some e → x ≠ o → x ≠ tx → G2 x = some e) (mk_B D vwCl A) A) ([.ref o, .int cv] : List Value).toArray s 0 0 A) (F0 m 3 ls []) := by
    intro n
    induction n with
    | zero =>
      intro k len f hn hk hl0 hq Gv h0 h1 hfr H locs hG hS ls hl
      refine lv_iload_n hx hb dX13_sign_3 rfl (lv_at hl 2 rfl) ?_
      refine lv_if_lt (tgt := 56) hx hb dX13_sign_4 (by decide) (fun c_4 => ?_) (fun c_4 => ?_)
      · skip
        exact W.vret hx hb hr (fun t ht hW => ⟨⟨_, rfl, (by injection hq with q1 q2; subst q1; subst q2; exact ⟨h0, h1, hl0, hfr⟩), mk_end hG ht⟩, hS.F ht⟩) hS.2.2 dX13_sign_56
      · skip
        exact absurd (by rw [hk]; exact sg_k_0) c_4
    | succ n ih =>
      intro k len f hn hk hl0 hq Gv h0 h1 hfr H locs hG hS ls hl
      refine lv_iload_n hx hb dX13_sign_3 rfl (lv_at hl 2 rfl) ?_
      refine lv_if_lt (tgt := 56) hx hb dX13_sign_4 (by decide) (fun c_4 => ?_) (fun c_4 => ?_)
      · skip
        exact absurd c_4 (by rw [hk]; exact (sg_k_pos n (by omega)).1)
      · skip
        refine lv_iload_n hx hb dX13_sign_7 rfl (lv_at hl 1 rfl) ?_
        refine lv_iload_n hx hb dX13_sign_8 rfl (lv_at hl 2 rfl) ?_
        obtain ⟨x1, ex1⟩ : ∃ y, y = ((cv : Int32).toUInt32 >>> ((k : Int32).toUInt32 &&& Int32.toUInt32 31)).toInt32 := ⟨_, rfl⟩
        refine lv_iushr (v := x1) hx hb dX13_sign_9 ex1.symm ?_
        refine lv_sipush (v := 255) hx hb dX13_sign_10 (by decide) ?_
        refine lv_iand hx hb dX13_sign_13 ?_
        refine lv_topi (fun x2 ex2 => ?_)
        refine lv_istore_n (lv' := [(3, .int x2), (0, .ref o), (1, .int cv), (2, .int k)]) hx hb dX13_sign_14 rfl hl (by decide) rfl (fun ls hl => ?_)
        refine lv_iload_n hx hb dX13_sign_15 rfl (lv_at hl 0 rfl) ?_
        refine lv_if_eq (tgt := 50) hx hb dX13_sign_16 (by decide) (fun c_16 => ?_) (fun c_16 => ?_)
        · skip
          obtain ⟨x3, ex3⟩ : ∃ y : Int32, y = k + (-8) := ⟨_, rfl⟩
          refine lv_iinc (v := x3) (lv' := [(2, .int x3), (3, .int x2), (0, .ref o), (1, .int cv)]) hx hb dX13_sign_50 hl (k := 3) rfl (by rw [ex3]; rfl) (by decide) rfl (fun ls hl => ?_)
          refine lv_goto (tgt := 3) hx hb dX13_sign_53 (by decide) ?_
          have hq2 : sg_n cv n x3 (len, f) = (L2, f2) := by
            rw [← hq]; show _ = sg_n cv n (k + -8) (sg_1 (sg_o cv k) (len, f))
            have e1 : sg_1 (sg_o cv k) (len, f) = (len, f) := by
              unfold sg_1; rw [show sg_o cv k = x2 by unfold sg_o; rw [ex2, ex1]]
              rw [if_pos c_16]
            rw [e1, ex3]
          exact ih x3 len f (by omega) (by rw [ex3, hk]; exact (sg_k_pos n (by omega)).2) hl0 hq2 Gv h0 h1 hfr _ _ hG hS ls (lv_sub hl [2, 3, 0] rfl)
        · skip
          refine lv_aload_n hx hb dX13_sign_19 rfl (lv_at hl 1 rfl) ?_
          refine mm_get (v := .int len) hx hb hf_X13 (fun _ h9 => h9) hown hK hG h0 rfl 5 (by decide) (tb_use hT tw_216) (fun _ h9 => h9) rfl dX13_sign_20 ?_
          refine lv_sipush (v := 2000) hx hb dX13_sign_23 (by decide) ?_
          refine lv_icmp_ge (tgt := 50) hx hb dX13_sign_26 (by decide) (fun c_26 => ?_) (fun c_26 => ?_)
          · skip
            obtain ⟨x4, ex4⟩ : ∃ y : Int32, y = k + (-8) := ⟨_, rfl⟩
            refine lv_iinc (v := x4) (lv' := [(2, .int x4), (3, .int x2), (0, .ref o), (1, .int cv)]) hx hb dX13_sign_50 hl (k := 3) rfl (by rw [ex4]; rfl) (by decide) rfl (fun ls hl => ?_)
            refine lv_goto (tgt := 3) hx hb dX13_sign_53 (by decide) ?_
            have hq2 : sg_n cv n x4 (len, f) = (L2, f2) := by
              rw [← hq]; show _ = sg_n cv n (k + -8) (sg_1 (sg_o cv k) (len, f))
              have e1 : sg_1 (sg_o cv k) (len, f) = (len, f) := by
                unfold sg_1; rw [show sg_o cv k = x2 by unfold sg_o; rw [ex2, ex1]]
                rw [if_neg c_16, if_pos c_26]
              rw [e1, ex4]
            exact ih x4 len f (by omega) (by rw [ex4, hk]; exact (sg_k_pos n (by omega)).2) hl0 hq2 Gv h0 h1 hfr _ _ hG hS ls (lv_sub hl [2, 3, 0] rfl)
          · skip
            refine lv_aload_n hx hb dX13_sign_29 rfl (lv_at hl 1 rfl) ?_
            refine mm_get (v := .ref tx) hx hb hf_X13 (fun _ h9 => h9) hown hK hG h0 rfl 0 (by decide) (tb_use hT tw_211) (fun _ h9 => h9) rfl dX13_sign_30 ?_
            refine lv_aload_n hx hb dX13_sign_33 rfl (lv_at hl 1 rfl) ?_
            refine mm_get (v := .int len) hx hb hf_X13 (fun _ h9 => h9) hown hK hG h0 rfl 5 (by decide) (tb_use hT tw_216) (fun _ h9 => h9) rfl dX13_sign_34 ?_
            refine lv_iload_n hx hb dX13_sign_37 rfl (lv_at hl 0 rfl) ?_
            obtain ⟨x5, ex5⟩ : ∃ y, y = (x2 : Int32).toInt8.toInt32 := ⟨_, rfl⟩
            refine lv_i2b (v := x5) hx hb dX13_sign_38 ex5.symm ?_
            refine mm_bast hx hb hK hG hS 0 h1 rfl (vp_in_ge hl0 c_26 rfl) dX13_sign_39 (fun H locs hG hS => ?_)
            obtain ⟨G6, eG6⟩ : ∃ g, g = mm_set Gv tx (.inl (cy 0, 2000, .inl (upd f len.toNatClampNeg (vp_nar .byte x5)))) := ⟨_, rfl⟩
            have hG : mm D vwCl A G6 H := by rw [eG6]; exact hG
            have k7 : G6 o = some (.inr (14, [.ref tx, .ref rd, .ref to, .ref se, .ref kp, .int len, .int kc, va_rf hd, va_rf rg])) := by rw [eG6]; exact mm_set_of h0 (mm_ne_oa h0 h1)
            have k8 : G6 tx = some (.inl (cy 0, 2000, .inl (upd f len.toNatClampNeg (vp_nar .byte x5)))) := by rw [eG6]; exact mm_set_self
            refine lv_aload_n hx hb dX13_sign_40 rfl (lv_at hl 1 rfl) ?_
            refine lv_dup hx hb dX13_sign_41 rfl ?_
            refine mm_get (v := .int len) hx hb hf_X13 (fun _ h9 => h9) hown hK hG k7 rfl 5 (by decide) (tb_use hT tw_216) (fun _ h9 => h9) rfl dX13_sign_42 ?_
            refine lv_iconst (v := 1) hx hb dX13_sign_45 (by decide) ?_
            refine lv_iadd hx hb dX13_sign_46 ?_
            refine lv_topi (fun x9 ex9 => ?_)
            refine mm_put (v := .int x9) (ty := .int) hx hb hf_X13 (fun _ h9 => h9) tyX13 tyX13_ok nmX13 hown hK hG hS k7 rfl 5 (by decide) (tb_use hT tw_216) (fun _ h9 => h9) rfl (by decide +kernel) rfl rfl (Nat.le_of_ble_eq_true rfl) dX13_sign_47 (fun H locs hG hS => ?_)
            obtain ⟨G10, eG10⟩ : ∃ g, g = mm_set G6 o (.inr (14, [.ref tx, .ref rd, .ref to, .ref se, .ref kp, .int x9, .int kc, va_rf hd, va_rf rg])) := ⟨_, rfl⟩
            have hG : mm D vwCl A G10 H := by rw [eG10]; exact hG
            have k11 : G10 o = some (.inr (14, [.ref tx, .ref rd, .ref to, .ref se, .ref kp, .int x9, .int kc, va_rf hd, va_rf rg])) := by rw [eG10]; exact mm_set_self
            have k12 : G10 tx = some (.inl (cy 0, 2000, .inl (upd f len.toNatClampNeg (vp_nar .byte x5)))) := by rw [eG10]; exact mm_set_of k8 (mm_ne_ao k8 k7)
            have hl2 : ¬ x9 < 0 := by rw [ex9]; exact sg_inc hl0 c_26
            obtain ⟨x13, ex13⟩ : ∃ y : Int32, y = k + (-8) := ⟨_, rfl⟩
            refine lv_iinc (v := x13) (lv' := [(2, .int x13), (3, .int x2), (0, .ref o), (1, .int cv)]) hx hb dX13_sign_50 hl (k := 3) rfl (by rw [ex13]; rfl) (by decide) rfl (fun ls hl => ?_)
            refine lv_goto (tgt := 3) hx hb dX13_sign_53 (by decide) ?_
            have hq2 : sg_n cv n x13 (x9, (upd f len.toNatClampNeg (vp_nar .byte x5))) = (L2, f2) := by
              rw [← hq]; show _ = sg_n cv n (k + -8) (sg_1 (sg_o cv k) (len, f))
              have e1 : sg_1 (sg_o cv k) (len, f) = (x9, (upd f len.toNatClampNeg (vp_nar .byte x5))) := by
                unfold sg_1; rw [show sg_o cv k = x2 by unfold sg_o; rw [ex2, ex1]]
                rw [if_neg c_16, if_neg c_26]
                subst ex5 eG6 ex9 eG10; rfl
              rw [e1, ex13]
            have hfr2 : ∀ (x : Nat) (e : va_E), G x = some e → x ≠ o → x ≠ tx → G10 x = some e := by
              intro x e z n_o n_tx
              have z0 := hfr x e z n_o n_tx
              have z1 : G6 x = some e := by rw [eG6]; exact mm_set_of z0 n_tx
              have z2 : G10 x = some e := by rw [eG10]; exact mm_set_of z1 n_o
              exact z2
            exact ih x13 x9 (upd f len.toNatClampNeg (vp_nar .byte x5)) (by omega) (by rw [ex13, hk]; exact (sg_k_pos n (by omega)).2) hl2 hq2 G10 k11 k12 hfr2 _ _ hG hS ls (lv_sub hl [2, 3, 0] rfl)
  refine lv_bipush (v := 24) hx hb dX13_sign_0 (by decide) ?_
  refine lv_istore_n (lv' := [(2, .int 24), (0, .ref o), (1, .int cv)]) hx hb dX13_sign_2 rfl hl (by decide) rfl (fun ls hl => ?_)
  exact lp 4 24 len f (by omega) (by decide) hl0 hfin G h0 h1 (fun _ _ z _ _ => z) _ _ hG hS ls (lv_sub hl [1, 2, 0] rfl)
end
section
set_option maxHeartbeats 4000000 in
set_option maxRecDepth 100000 in
theorem c_X13_serviceNumbered_0 (l : Launch) (D : va_G) (cy : Nat → ClassId) (A : Nat → Prop) (X : State → Prop) (hst : mk_St A X) (hXT : ∀ U : State, X U → TB U) (G : Nat → Option va_E) (o tx rd to se kp : Nat) (tl kc : Int32) (i : Int32) (h0 : G o = some (.inr (14, [.ref tx, .ref rd, .ref to, .ref se, .ref kp, .int tl, .int kc, .null, .null]))) : Met l yX13_serviceNumbered [.code yX13_serviceNumbered cX13_serviceNumbered 2 (some (.object "DescribeText$Service"))] ({ frames := 0, cells := 0, slots := 0, locals := 0 }) (mk_Pre D vwCl (tyL cy) A X G [.ref o, .int i]) (va_Qq (fun (r : Option Nat) (G2 : Nat → Option va_E) => r = none ∧ G2 = G) (mk_B D vwCl A) A) 0 0 A := by
  refine Met.ofW (cc := cX13_serviceNumbered) (maxL := 2) (ret := (some (.object "DescribeText$Service"))) (by decide) rfl ?_
  intro p e s m args below meth c s₁ B hml hv
  obtain ⟨rfl, hG, hK, hA, hX⟩ := hv
  have hx := B.exec
  have hb := B.bytes
  have hr := B.returns
  have hlocks := B.notSynchronized
  have hT := hXT s hX
  have hown : s.vm.findClass RX13 = some m.cls := findClass_of_methodNamed B.named
  have hf_X13 : ∀ w ∈ u_ws RX13 TX13 9, w.before ([.ref o, .int i] : List Value).toArray s = true := tb_list hT fX13
  have hS : va_S A s.heap s.heap [] := va_S.rf
  have hl := lv_entry ([.ref o, .int i]) (n := 2) (Nat.le_of_ble_eq_true rfl)
  rw [lg_entry_eq]
  generalize (lg_sl ([.ref o, .int i]) ++ List.replicate (2 - (lg_sl ([.ref o, .int i])).length) Slot.unset).toArray = ls at hl ⊢
  have hl : lv_has ls 2 [(0, .ref o), (1, .int i)] := hl
  refine lv_aload_n hx hb dX13_serviceNumbered_0 rfl (lv_at hl 0 rfl) ?_
  refine mm_get (v := .null) hx hb hf_X13 (fun _ h9 => h9) hown hK hG h0 rfl 7 (by decide) (tb_use hT tw_218) (fun _ h9 => h9) rfl dX13_serviceNumbered_1 ?_
  refine lv_ifnullN (tgt := 26) hx hb dX13_serviceNumbered_4 (by decide) ?_
  refine lv_null hx hb dX13_serviceNumbered_26 ?_
  exact W.aret (v := .null) hx hb hr (Or.inl ⟨_, rfl⟩) (Or.inl rfl) (fun t ht hW => ⟨⟨(none : Option Nat), _, rfl, ⟨rfl, rfl⟩, mk_end hG ht⟩, hS.F ht⟩) hS.2.2 dX13_serviceNumbered_27

set_option maxHeartbeats 4000000 in
set_option maxRecDepth 100000 in
theorem c_X13_parameterNumbered_0 (l : Launch) (D : va_G) (cy : Nat → ClassId) (A : Nat → Prop) (X : State → Prop) (hst : mk_St A X) (hXT : ∀ U : State, X U → TB U) (G : Nat → Option va_E) (i : Int32)  : Met l yX13_parameterNumbered [.code yX13_parameterNumbered cX13_parameterNumbered 2 (some (.object "DescribeText$Parameter"))] ({ frames := 0, cells := 0, slots := 0, locals := 0 }) (mk_Pre D vwCl (tyL cy) A X G [.null, .int i]) (va_Qq (fun (r : Option Nat) (G2 : Nat → Option va_E) => r = none ∧ G2 = G) (mk_B D vwCl A) A) 0 0 A := by
  refine Met.ofW (cc := cX13_parameterNumbered) (maxL := 2) (ret := (some (.object "DescribeText$Parameter"))) (by decide) rfl ?_
  intro p e s m args below meth c s₁ B hml hv
  obtain ⟨rfl, hG, hK, hA, hX⟩ := hv
  have hx := B.exec
  have hb := B.bytes
  have hr := B.returns
  have hlocks := B.notSynchronized
  have hT := hXT s hX
  have hown : s.vm.findClass RX13 = some m.cls := findClass_of_methodNamed B.named
  have hS : va_S A s.heap s.heap [] := va_S.rf
  have hl := lv_entry ([.null, .int i]) (n := 2) (Nat.le_of_ble_eq_true rfl)
  rw [lg_entry_eq]
  generalize (lg_sl ([.null, .int i]) ++ List.replicate (2 - (lg_sl ([.null, .int i])).length) Slot.unset).toArray = ls at hl ⊢
  have hl : lv_has ls 2 [(0, .null), (1, .int i)] := hl
  refine lv_aload_nN hx hb dX13_parameterNumbered_0 rfl (lv_at hl 0 rfl) ?_
  refine lv_ifnullN (tgt := 20) hx hb dX13_parameterNumbered_1 (by decide) ?_
  refine lv_null hx hb dX13_parameterNumbered_20 ?_
  exact W.aret (v := .null) hx hb hr (Or.inl ⟨_, rfl⟩) (Or.inl rfl) (fun t ht hW => ⟨⟨(none : Option Nat), _, rfl, ⟨rfl, rfl⟩, mk_end hG ht⟩, hS.F ht⟩) hS.2.2 dX13_parameterNumbered_21

set_option maxHeartbeats 4000000 in
set_option maxRecDepth 100000 in
theorem c_X13_service_0 (l : Launch) (D : va_G) (cy : Nat → ClassId) (A : Nat → Prop) (X : State → Prop) (hst : mk_St A X) (hXT : ∀ U : State, X U → TB U) (G : Nat → Option va_E) (o tx rd to se kp : Nat) (tl kc : Int32) (i w : Int32) (h0 : G o = some (.inr (14, [.ref tx, .ref rd, .ref to, .ref se, .ref kp, .int tl, .int kc, .null, .null]))) : Met l yX13_service [.code yX13_service cX13_service 4 (some .int)] ({ frames := 1, cells := 0, slots := 0, locals := 60 }) (mk_Pre D vwCl (tyL cy) A X G [.ref o, .int i, .int w]) (va_Qi (fun (r : Int32) (G2 : Nat → Option va_E) => r = -1 ∧ G2 = G) (mk_B D vwCl A) A) 0 0 A := by
  refine Met.ofW (cc := cX13_service) (maxL := 4) (ret := (some .int)) (by decide) rfl ?_
  intro p e s m args below meth c s₁ B hml hv
  obtain ⟨rfl, hG, hK, hA, hX⟩ := hv
  have hx := B.exec
  have hb := B.bytes
  have hr := B.returns
  have hlocks := B.notSynchronized
  have hT := hXT s hX
  have hown : s.vm.findClass RX13 = some m.cls := findClass_of_methodNamed B.named
  have hS : va_S A s.heap s.heap [] := va_S.rf
  have hl := lv_entry ([.ref o, .int i, .int w]) (n := 4) (Nat.le_of_ble_eq_true rfl)
  rw [lg_entry_eq]
  generalize (lg_sl ([.ref o, .int i, .int w]) ++ List.replicate (4 - (lg_sl ([.ref o, .int i, .int w])).length) Slot.unset).toArray = ls at hl ⊢
  have hl : lv_has ls 4 [(0, .ref o), (1, .int i), (2, .int w)] := hl
  refine lv_aload_n hx hb dX13_service_0 rfl (lv_at hl 0 rfl) ?_
  refine lv_iload_n hx hb dX13_service_1 rfl (lv_at hl 1 rfl) ?_
  refine va_callq (va_runV (As := [.int i]) (rest := []) ⟨hx, hb, hml, hown, (fun _ h9 => absurd h9 List.not_mem_nil : ∀ w ∈ ([] : List Cond), w.before _ s = true)⟩ (c_X13_serviceNumbered_0 l D cy A X hst hXT G o tx rd to se kp tl kc i h0) (tb_cw (C := RX13) 1 hT tw_1090 tw_105 tw_1087 tw_1089 tw_46 rfl rfl (by decide +kernel) ⟨Nat.le_of_ble_eq_true rfl, Nat.le_of_ble_eq_true rfl⟩) (mk_preV hst hG hK hA hX hS (ci := 14) rfl h0) rfl rfl hl.1 rfl (lv_room (Nat.le_of_ble_eq_true rfl)) dX13_service_2 ⟨Nat.le_of_ble_eq_true rfl, Nat.le_of_ble_eq_true rfl⟩) hS (fun q _ h => h) (fun q h => h) (fun r1 G2 t H1 locs ht hvm hw hB hz1 hk1 hS => ?_)
  have hG : mm D vwCl A G2 H1 := by rw [← ht]; exact hB
  clear hB hz1 hk1 hvm ht
  generalize H1 = H at hG hS ⊢
  obtain ⟨rfl, hw⟩ := hw
  rw [hw] at hG
  refine lv_astore_nN (lv' := [(3, .null), (0, .ref o), (1, .int i), (2, .int w)]) hx hb dX13_service_5 rfl hl (by decide) rfl (fun ls hl => ?_)
  refine lv_aload_nN hx hb dX13_service_6 rfl (lv_at hl 0 rfl) ?_
  refine lv_ifnullN (tgt := 17) hx hb dX13_service_7 (by decide) ?_
  refine lv_iconst (v := (-1)) hx hb dX13_service_17 (by decide) ?_
  exact W.iret (v := (-1)) hx hb hr (fun t ht hW => ⟨⟨_, _, rfl, ⟨rfl, rfl⟩, mk_end hG ht⟩, hS.F ht⟩) hS.2.2 dX13_service_18

set_option maxHeartbeats 4000000 in
set_option maxRecDepth 100000 in
theorem c_X13_parameter_0 (l : Launch) (D : va_G) (cy : Nat → ClassId) (A : Nat → Prop) (X : State → Prop) (hst : mk_St A X) (hXT : ∀ U : State, X U → TB U) (G : Nat → Option va_E) (o tx rd to se kp : Nat) (tl kc : Int32) (i j w : Int32) (h0 : G o = some (.inr (14, [.ref tx, .ref rd, .ref to, .ref se, .ref kp, .int tl, .int kc, .null, .null]))) : Met l yX13_parameter [.code yX13_parameter cX13_parameter 5 (some .int)] ({ frames := 1, cells := 0, slots := 0, locals := 60 }) (mk_Pre D vwCl (tyL cy) A X G [.ref o, .int i, .int j, .int w]) (va_Qi (fun (r : Int32) (G2 : Nat → Option va_E) => r = -1 ∧ G2 = G) (mk_B D vwCl A) A) 0 0 A := by
  refine Met.ofW (cc := cX13_parameter) (maxL := 5) (ret := (some .int)) (by decide) rfl ?_
  intro p e s m args below meth c s₁ B hml hv
  obtain ⟨rfl, hG, hK, hA, hX⟩ := hv
  have hx := B.exec
  have hb := B.bytes
  have hr := B.returns
  have hlocks := B.notSynchronized
  have hT := hXT s hX
  have hown : s.vm.findClass RX13 = some m.cls := findClass_of_methodNamed B.named
  have hS : va_S A s.heap s.heap [] := va_S.rf
  have hl := lv_entry ([.ref o, .int i, .int j, .int w]) (n := 5) (Nat.le_of_ble_eq_true rfl)
  rw [lg_entry_eq]
  generalize (lg_sl ([.ref o, .int i, .int j, .int w]) ++ List.replicate (5 - (lg_sl ([.ref o, .int i, .int j, .int w])).length) Slot.unset).toArray = ls at hl ⊢
  have hl : lv_has ls 5 [(0, .ref o), (1, .int i), (2, .int j), (3, .int w)] := hl
  refine lv_aload_n hx hb dX13_parameter_0 rfl (lv_at hl 0 rfl) ?_
  refine lv_iload_n hx hb dX13_parameter_1 rfl (lv_at hl 1 rfl) ?_
  refine va_callq (va_runV (As := [.int i]) (rest := []) ⟨hx, hb, hml, hown, (fun _ h9 => absurd h9 List.not_mem_nil : ∀ w ∈ ([] : List Cond), w.before _ s = true)⟩ (c_X13_serviceNumbered_0 l D cy A X hst hXT G o tx rd to se kp tl kc i h0) (tb_cw (C := RX13) 1 hT tw_1090 tw_105 tw_1087 tw_1089 tw_46 rfl rfl (by decide +kernel) ⟨Nat.le_of_ble_eq_true rfl, Nat.le_of_ble_eq_true rfl⟩) (mk_preV hst hG hK hA hX hS (ci := 14) rfl h0) rfl rfl hl.1 rfl (lv_room (Nat.le_of_ble_eq_true rfl)) dX13_parameter_2 ⟨Nat.le_of_ble_eq_true rfl, Nat.le_of_ble_eq_true rfl⟩) hS (fun q _ h => h) (fun q h => h) (fun r1 G2 t H1 locs ht hvm hw hB hz1 hk1 hS => ?_)
  have hG : mm D vwCl A G2 H1 := by rw [← ht]; exact hB
  clear hB hz1 hk1 hvm ht
  generalize H1 = H at hG hS ⊢
  obtain ⟨rfl, hw⟩ := hw
  rw [hw] at hG
  refine lv_iload_n hx hb dX13_parameter_5 rfl (lv_at hl 2 rfl) ?_
  refine va_callq (va_runS (As := [.null, .int j]) (rest := []) ⟨hx, hb, hml, hown, (fun _ h9 => absurd h9 List.not_mem_nil : ∀ w ∈ ([] : List Cond), w.before _ s = true)⟩ (c_X13_parameterNumbered_0 l D cy A X hst hXT G j) (tb_cs 2 hT tw_1103 tw_105 tw_1101 tw_1102 rfl rfl (by decide +kernel) ⟨Nat.le_of_ble_eq_true rfl, Nat.le_of_ble_eq_true rfl⟩) (mk_preS hst hG hK hA hX hS) rfl rfl hl.1 rfl (lv_room (Nat.le_of_ble_eq_true rfl)) dX13_parameter_6 ⟨Nat.le_of_ble_eq_true rfl, Nat.le_of_ble_eq_true rfl⟩) hS (fun q _ h => h) (fun q h => h) (fun r3 G4 t H1 locs ht hvm hw hB hz1 hk1 hS => ?_)
  have hG : mm D vwCl A G4 H1 := by rw [← ht]; exact hB
  clear hB hz1 hk1 hvm ht
  generalize H1 = H at hG hS ⊢
  obtain ⟨rfl, hw⟩ := hw
  rw [hw] at hG
  refine lv_astoreN (lv' := [(4, .null), (0, .ref o), (1, .int i), (2, .int j), (3, .int w)]) hx hb dX13_parameter_9 hl (by decide) rfl (fun ls hl => ?_)
  refine lv_aloadN hx hb dX13_parameter_11 (lv_at hl 0 rfl) ?_
  refine lv_ifnullN (tgt := 23) hx hb dX13_parameter_13 (by decide) ?_
  refine lv_iconst (v := (-1)) hx hb dX13_parameter_23 (by decide) ?_
  exact W.iret (v := (-1)) hx hb hr (fun t ht hW => ⟨⟨_, _, rfl, ⟨rfl, rfl⟩, mk_end hG ht⟩, hS.F ht⟩) hS.2.2 dX13_parameter_24

set_option maxHeartbeats 4000000 in
set_option maxRecDepth 100000 in
theorem c_X13_decode_0 (l : Launch) (D : va_G) (cy : Nat → ClassId) (A : Nat → Prop) (X : State → Prop) (hst : mk_St A X) (hXT : ∀ U : State, X U → TB U) (G : Nat → Option va_E) (o tx rd to se kp : Nat) (tl kc : Int32) (i j w : Int32) (h0 : G o = some (.inr (14, [.ref tx, .ref rd, .ref to, .ref se, .ref kp, .int tl, .int kc, .null, .null]))) : Met l yX13_decode [.code yX13_decode cX13_decode 6 (some .long)] ({ frames := 1, cells := 0, slots := 0, locals := 60 }) (mk_Pre D vwCl (tyL cy) A X G [.ref o, .int i, .int j, .int w]) (va_Ql (fun (r : Int64) (G2 : Nat → Option va_E) => r = -1 ∧ G2 = G) (mk_B D vwCl A) A) 0 0 A := by
  refine Met.ofW (cc := cX13_decode) (maxL := 6) (ret := (some .long)) (by decide) rfl ?_
  intro p e s m args below meth c s₁ B hml hv
  obtain ⟨rfl, hG, hK, hA, hX⟩ := hv
  have hx := B.exec
  have hb := B.bytes
  have hr := B.returns
  have hlocks := B.notSynchronized
  have hT := hXT s hX
  have hown : s.vm.findClass RX13 = some m.cls := findClass_of_methodNamed B.named
  have hS : va_S A s.heap s.heap [] := va_S.rf
  have hl := lv_entry ([.ref o, .int i, .int j, .int w]) (n := 6) (Nat.le_of_ble_eq_true rfl)
  rw [lg_entry_eq]
  generalize (lg_sl ([.ref o, .int i, .int j, .int w]) ++ List.replicate (6 - (lg_sl ([.ref o, .int i, .int j, .int w])).length) Slot.unset).toArray = ls at hl ⊢
  have hl : lv_has ls 6 [(0, .ref o), (1, .int i), (2, .int j), (3, .int w)] := hl
  refine lv_aload_n hx hb dX13_decode_0 rfl (lv_at hl 0 rfl) ?_
  refine lv_iload_n hx hb dX13_decode_1 rfl (lv_at hl 1 rfl) ?_
  refine va_callq (va_runV (As := [.int i]) (rest := []) ⟨hx, hb, hml, hown, (fun _ h9 => absurd h9 List.not_mem_nil : ∀ w ∈ ([] : List Cond), w.before _ s = true)⟩ (c_X13_serviceNumbered_0 l D cy A X hst hXT G o tx rd to se kp tl kc i h0) (tb_cw (C := RX13) 1 hT tw_1090 tw_105 tw_1087 tw_1089 tw_46 rfl rfl (by decide +kernel) ⟨Nat.le_of_ble_eq_true rfl, Nat.le_of_ble_eq_true rfl⟩) (mk_preV hst hG hK hA hX hS (ci := 14) rfl h0) rfl rfl hl.1 rfl (lv_room (Nat.le_of_ble_eq_true rfl)) dX13_decode_2 ⟨Nat.le_of_ble_eq_true rfl, Nat.le_of_ble_eq_true rfl⟩) hS (fun q _ h => h) (fun q h => h) (fun r1 G2 t H1 locs ht hvm hw hB hz1 hk1 hS => ?_)
  have hG : mm D vwCl A G2 H1 := by rw [← ht]; exact hB
  clear hB hz1 hk1 hvm ht
  generalize H1 = H at hG hS ⊢
  obtain ⟨rfl, hw⟩ := hw
  rw [hw] at hG
  refine lv_astoreN (lv' := [(4, .null), (0, .ref o), (1, .int i), (2, .int j), (3, .int w)]) hx hb dX13_decode_5 hl (by decide) rfl (fun ls hl => ?_)
  refine lv_aloadN hx hb dX13_decode_7 (lv_at hl 0 rfl) ?_
  refine lv_iload_n hx hb dX13_decode_9 rfl (lv_at hl 3 rfl) ?_
  refine va_callq (va_runS (As := [.null, .int j]) (rest := []) ⟨hx, hb, hml, hown, (fun _ h9 => absurd h9 List.not_mem_nil : ∀ w ∈ ([] : List Cond), w.before _ s = true)⟩ (c_X13_parameterNumbered_0 l D cy A X hst hXT G j) (tb_cs 2 hT tw_1103 tw_105 tw_1101 tw_1102 rfl rfl (by decide +kernel) ⟨Nat.le_of_ble_eq_true rfl, Nat.le_of_ble_eq_true rfl⟩) (mk_preS hst hG hK hA hX hS) rfl rfl hl.1 rfl (lv_room (Nat.le_of_ble_eq_true rfl)) dX13_decode_10 ⟨Nat.le_of_ble_eq_true rfl, Nat.le_of_ble_eq_true rfl⟩) hS (fun q _ h => h) (fun q h => h) (fun r3 G4 t H1 locs ht hvm hw hB hz1 hk1 hS => ?_)
  have hG : mm D vwCl A G4 H1 := by rw [← ht]; exact hB
  clear hB hz1 hk1 hvm ht
  generalize H1 = H at hG hS ⊢
  obtain ⟨rfl, hw⟩ := hw
  rw [hw] at hG
  refine lv_astoreN (lv' := [(5, .null), (4, .null), (0, .ref o), (1, .int i), (2, .int j), (3, .int w)]) hx hb dX13_decode_13 hl (by decide) rfl (fun ls hl => ?_)
  refine lv_aloadN hx hb dX13_decode_15 (lv_at hl 1 rfl) ?_
  refine lv_ifnullN (tgt := 32) hx hb dX13_decode_17 (by decide) ?_
  refine lv_ldc2 hx hb hown (tb_use hT tw_1109) dX13_decode_32 ?_
  exact W.lret (v := (-1)) hx hb hr (fun t ht hW => ⟨⟨_, _, rfl, ⟨rfl, rfl⟩, mk_end hG ht⟩, hS.F ht⟩) hS.2.2 dX13_decode_35

set_option maxHeartbeats 4000000 in
set_option maxRecDepth 100000 in
theorem c_X13_encode_0 (l : Launch) (D : va_G) (cy : Nat → ClassId) (A : Nat → Prop) (X : State → Prop) (hst : mk_St A X) (hXT : ∀ U : State, X U → TB U) (G : Nat → Option va_E) (o tx rd to se kp : Nat) (tl kc : Int32) (i j : Int32) (v : Int64) (h0 : G o = some (.inr (14, [.ref tx, .ref rd, .ref to, .ref se, .ref kp, .int tl, .int kc, .null, .null]))) : Met l yX13_encode [.code yX13_encode cX13_encode 9 (some .int)] ({ frames := 1, cells := 0, slots := 0, locals := 60 }) (mk_Pre D vwCl (tyL cy) A X G [.ref o, .int i, .int j, .long v]) (va_Qi (fun (r : Int32) (G2 : Nat → Option va_E) => r = -1 ∧ G2 = G) (mk_B D vwCl A) A) 0 0 A := by
  refine Met.ofW (cc := cX13_encode) (maxL := 9) (ret := (some .int)) (by decide) rfl ?_
  intro p e s m args below meth c s₁ B hml hv
  obtain ⟨rfl, hG, hK, hA, hX⟩ := hv
  have hx := B.exec
  have hb := B.bytes
  have hr := B.returns
  have hlocks := B.notSynchronized
  have hT := hXT s hX
  have hown : s.vm.findClass RX13 = some m.cls := findClass_of_methodNamed B.named
  have hS : va_S A s.heap s.heap [] := va_S.rf
  have hl := lv_entry ([.ref o, .int i, .int j, .long v]) (n := 9) (Nat.le_of_ble_eq_true rfl)
  rw [lg_entry_eq]
  generalize (lg_sl ([.ref o, .int i, .int j, .long v]) ++ List.replicate (9 - (lg_sl ([.ref o, .int i, .int j, .long v])).length) Slot.unset).toArray = ls at hl ⊢
  have hl : lv_has ls 9 [(0, .ref o), (1, .int i), (2, .int j), (3, .long v)] := hl
  refine lv_aload_n hx hb dX13_encode_0 rfl (lv_at hl 0 rfl) ?_
  refine lv_iload_n hx hb dX13_encode_1 rfl (lv_at hl 1 rfl) ?_
  refine va_callq (va_runV (As := [.int i]) (rest := []) ⟨hx, hb, hml, hown, (fun _ h9 => absurd h9 List.not_mem_nil : ∀ w ∈ ([] : List Cond), w.before _ s = true)⟩ (c_X13_serviceNumbered_0 l D cy A X hst hXT G o tx rd to se kp tl kc i h0) (tb_cw (C := RX13) 1 hT tw_1090 tw_105 tw_1087 tw_1089 tw_46 rfl rfl (by decide +kernel) ⟨Nat.le_of_ble_eq_true rfl, Nat.le_of_ble_eq_true rfl⟩) (mk_preV hst hG hK hA hX hS (ci := 14) rfl h0) rfl rfl hl.1 rfl (lv_room (Nat.le_of_ble_eq_true rfl)) dX13_encode_2 ⟨Nat.le_of_ble_eq_true rfl, Nat.le_of_ble_eq_true rfl⟩) hS (fun q _ h => h) (fun q h => h) (fun r1 G2 t H1 locs ht hvm hw hB hz1 hk1 hS => ?_)
  have hG : mm D vwCl A G2 H1 := by rw [← ht]; exact hB
  clear hB hz1 hk1 hvm ht
  generalize H1 = H at hG hS ⊢
  obtain ⟨rfl, hw⟩ := hw
  rw [hw] at hG
  refine lv_astoreN (lv' := [(5, .null), (0, .ref o), (1, .int i), (2, .int j), (3, .long v)]) hx hb dX13_encode_5 hl (by decide) rfl (fun ls hl => ?_)
  refine lv_aloadN hx hb dX13_encode_7 (lv_at hl 0 rfl) ?_
  refine lv_iload_n hx hb dX13_encode_9 rfl (lv_at hl 3 rfl) ?_
  refine va_callq (va_runS (As := [.null, .int j]) (rest := []) ⟨hx, hb, hml, hown, (fun _ h9 => absurd h9 List.not_mem_nil : ∀ w ∈ ([] : List Cond), w.before _ s = true)⟩ (c_X13_parameterNumbered_0 l D cy A X hst hXT G j) (tb_cs 2 hT tw_1103 tw_105 tw_1101 tw_1102 rfl rfl (by decide +kernel) ⟨Nat.le_of_ble_eq_true rfl, Nat.le_of_ble_eq_true rfl⟩) (mk_preS hst hG hK hA hX hS) rfl rfl hl.1 rfl (lv_room (Nat.le_of_ble_eq_true rfl)) dX13_encode_10 ⟨Nat.le_of_ble_eq_true rfl, Nat.le_of_ble_eq_true rfl⟩) hS (fun q _ h => h) (fun q h => h) (fun r3 G4 t H1 locs ht hvm hw hB hz1 hk1 hS => ?_)
  have hG : mm D vwCl A G4 H1 := by rw [← ht]; exact hB
  clear hB hz1 hk1 hvm ht
  generalize H1 = H at hG hS ⊢
  obtain ⟨rfl, hw⟩ := hw
  rw [hw] at hG
  refine lv_astoreN (lv' := [(6, .null), (5, .null), (0, .ref o), (1, .int i), (2, .int j), (3, .long v)]) hx hb dX13_encode_13 hl (by decide) rfl (fun ls hl => ?_)
  refine lv_aloadN hx hb dX13_encode_15 (lv_at hl 1 rfl) ?_
  refine lv_ifnullN (tgt := 33) hx hb dX13_encode_17 (by decide) ?_
  refine lv_iconst (v := (-1)) hx hb dX13_encode_33 (by decide) ?_
  exact W.iret (v := (-1)) hx hb hr (fun t ht hW => ⟨⟨_, _, rfl, ⟨rfl, rfl⟩, mk_end hG ht⟩, hS.F ht⟩) hS.2.2 dX13_encode_34

set_option maxHeartbeats 4000000 in
set_option maxRecDepth 100000 in
theorem c_X13_variant_0 (l : Launch) (D : va_G) (cy : Nat → ClassId) (A : Nat → Prop) (X : State → Prop) (hst : mk_St A X) (hXT : ∀ U : State, X U → TB U) (G : Nat → Option va_E) (o tx rd to se kp : Nat) (tl kc : Int32) (i : Int32) (h0 : G o = some (.inr (14, [.ref tx, .ref rd, .ref to, .ref se, .ref kp, .int tl, .int kc, .null, .null]))) : Met l yX13_variant [.code yX13_variant cX13_variant 2 (some .int)] ({ frames := 0, cells := 0, slots := 0, locals := 0 }) (mk_Pre D vwCl (tyL cy) A X G [.ref o, .int i]) (va_Qi (fun (r : Int32) (G2 : Nat → Option va_E) => r = -3 ∧ G2 = G) (mk_B D vwCl A) A) 0 0 A := by
  refine Met.ofW (cc := cX13_variant) (maxL := 2) (ret := (some .int)) (by decide) rfl ?_
  intro p e s m args below meth c s₁ B hml hv
  obtain ⟨rfl, hG, hK, hA, hX⟩ := hv
  have hx := B.exec
  have hb := B.bytes
  have hr := B.returns
  have hlocks := B.notSynchronized
  have hT := hXT s hX
  have hown : s.vm.findClass RX13 = some m.cls := findClass_of_methodNamed B.named
  have hf_X13 : ∀ w ∈ u_ws RX13 TX13 9, w.before ([.ref o, .int i] : List Value).toArray s = true := tb_list hT fX13
  have hS : va_S A s.heap s.heap [] := va_S.rf
  have hl := lv_entry ([.ref o, .int i]) (n := 2) (Nat.le_of_ble_eq_true rfl)
  rw [lg_entry_eq]
  generalize (lg_sl ([.ref o, .int i]) ++ List.replicate (2 - (lg_sl ([.ref o, .int i])).length) Slot.unset).toArray = ls at hl ⊢
  have hl : lv_has ls 2 [(0, .ref o), (1, .int i)] := hl
  refine lv_aload_n hx hb dX13_variant_0 rfl (lv_at hl 0 rfl) ?_
  refine mm_get (v := .null) hx hb hf_X13 (fun _ h9 => h9) hown hK hG h0 rfl 7 (by decide) (tb_use hT tw_218) (fun _ h9 => h9) rfl dX13_variant_1 ?_
  refine lv_ifnonnullN hx hb dX13_variant_4 ?_
  refine lv_bipush (v := (-3)) hx hb dX13_variant_7 (by decide) ?_
  exact W.iret (v := (-3)) hx hb hr (fun t ht hW => ⟨⟨_, _, rfl, ⟨rfl, rfl⟩, mk_end hG ht⟩, hS.F ht⟩) hS.2.2 dX13_variant_9

set_option maxHeartbeats 4000000 in
set_option maxRecDepth 100000 in
theorem c_X13_job_0 (l : Launch) (D : va_G) (cy : Nat → ClassId) (A : Nat → Prop) (X : State → Prop) (hst : mk_St A X) (hXT : ∀ U : State, X U → TB U) (G : Nat → Option va_E) (o tx rd to se kp : Nat) (tl kc : Int32) (i : Int32) (v : Int64) (h0 : G o = some (.inr (14, [.ref tx, .ref rd, .ref to, .ref se, .ref kp, .int tl, .int kc, .null, .null]))) : Met l yX13_job [.code yX13_job cX13_job 4 (some .int)] ({ frames := 0, cells := 0, slots := 0, locals := 0 }) (mk_Pre D vwCl (tyL cy) A X G [.ref o, .int i, .long v]) (va_Qi (fun (r : Int32) (G2 : Nat → Option va_E) => r = -1 ∧ G2 = G) (mk_B D vwCl A) A) 0 0 A := by
  refine Met.ofW (cc := cX13_job) (maxL := 4) (ret := (some .int)) (by decide) rfl ?_
  intro p e s m args below meth c s₁ B hml hv
  obtain ⟨rfl, hG, hK, hA, hX⟩ := hv
  have hx := B.exec
  have hb := B.bytes
  have hr := B.returns
  have hlocks := B.notSynchronized
  have hT := hXT s hX
  have hown : s.vm.findClass RX13 = some m.cls := findClass_of_methodNamed B.named
  have hf_X13 : ∀ w ∈ u_ws RX13 TX13 9, w.before ([.ref o, .int i, .long v] : List Value).toArray s = true := tb_list hT fX13
  have hS : va_S A s.heap s.heap [] := va_S.rf
  have hl := lv_entry ([.ref o, .int i, .long v]) (n := 4) (Nat.le_of_ble_eq_true rfl)
  rw [lg_entry_eq]
  generalize (lg_sl ([.ref o, .int i, .long v]) ++ List.replicate (4 - (lg_sl ([.ref o, .int i, .long v])).length) Slot.unset).toArray = ls at hl ⊢
  have hl : lv_has ls 4 [(0, .ref o), (1, .int i), (2, .long v)] := hl
  refine lv_aload_n hx hb dX13_job_0 rfl (lv_at hl 0 rfl) ?_
  refine mm_get (v := .null) hx hb hf_X13 (fun _ h9 => h9) hown hK hG h0 rfl 7 (by decide) (tb_use hT tw_218) (fun _ h9 => h9) rfl dX13_job_1 ?_
  refine lv_ifnullN (tgt := 26) hx hb dX13_job_4 (by decide) ?_
  refine lv_iconst (v := (-1)) hx hb dX13_job_26 (by decide) ?_
  exact W.iret (v := (-1)) hx hb hr (fun t ht hW => ⟨⟨_, _, rfl, ⟨rfl, rfl⟩, mk_end hG ht⟩, hS.F ht⟩) hS.2.2 dX13_job_27

set_option maxHeartbeats 4000000 in
set_option maxRecDepth 100000 in
theorem c_X13_ring_0 (l : Launch) (D : va_G) (cy : Nat → ClassId) (A : Nat → Prop) (X : State → Prop) (hst : mk_St A X) (hXT : ∀ U : State, X U → TB U) (G : Nat → Option va_E) (o tx rd to se kp : Nat) (tl kc : Int32) (i : Int32) (h0 : G o = some (.inr (14, [.ref tx, .ref rd, .ref to, .ref se, .ref kp, .int tl, .int kc, .null, .null]))) : Met l yX13_ring [.code yX13_ring cX13_ring 4 (some .int)] ({ frames := 0, cells := 0, slots := 0, locals := 0 }) (mk_Pre D vwCl (tyL cy) A X G [.ref o, .int i]) (va_Qi (fun (r : Int32) (G2 : Nat → Option va_E) => r = 0 ∧ G2 = G) (mk_B D vwCl A) A) 0 0 A := by
  refine Met.ofW (cc := cX13_ring) (maxL := 4) (ret := (some .int)) (by decide) rfl ?_
  intro p e s m args below meth c s₁ B hml hv
  obtain ⟨rfl, hG, hK, hA, hX⟩ := hv
  have hx := B.exec
  have hb := B.bytes
  have hr := B.returns
  have hlocks := B.notSynchronized
  have hT := hXT s hX
  have hown : s.vm.findClass RX13 = some m.cls := findClass_of_methodNamed B.named
  have hf_X13 : ∀ w ∈ u_ws RX13 TX13 9, w.before ([.ref o, .int i] : List Value).toArray s = true := tb_list hT fX13
  have hS : va_S A s.heap s.heap [] := va_S.rf
  have hl := lv_entry ([.ref o, .int i]) (n := 4) (Nat.le_of_ble_eq_true rfl)
  rw [lg_entry_eq]
  generalize (lg_sl ([.ref o, .int i]) ++ List.replicate (4 - (lg_sl ([.ref o, .int i])).length) Slot.unset).toArray = ls at hl ⊢
  have hl : lv_has ls 4 [(0, .ref o), (1, .int i)] := hl
  refine lv_iload_n hx hb dX13_ring_0 rfl (lv_at hl 1 rfl) ?_
  refine lv_if_lt (tgt := 10) hx hb dX13_ring_1 (by decide) (fun c_1 => ?_) (fun c_1 => ?_)
  · skip
    refine lv_iconst (v := 0) hx hb dX13_ring_10 (by decide) ?_
    exact W.iret (v := 0) hx hb hr (fun t ht hW => ⟨⟨_, _, rfl, ⟨rfl, rfl⟩, mk_end hG ht⟩, hS.F ht⟩) hS.2.2 dX13_ring_11
  · skip
    refine lv_iload_n hx hb dX13_ring_4 rfl (lv_at hl 1 rfl) ?_
    refine lv_bipush (v := 6) hx hb dX13_ring_5 (by decide) ?_
    refine lv_icmp_lt (tgt := 12) hx hb dX13_ring_7 (by decide) (fun c_7 => ?_) (fun c_7 => ?_)
    · skip
      refine lv_aload_n hx hb dX13_ring_12 rfl (lv_at hl 0 rfl) ?_
      refine mm_get (v := .null) hx hb hf_X13 (fun _ h9 => h9) hown hK hG h0 rfl 8 (by decide) (tb_use hT tw_219) (fun _ h9 => h9) rfl dX13_ring_13 ?_
      refine lv_astore_nN (lv' := [(2, .null), (0, .ref o), (1, .int i)]) hx hb dX13_ring_16 rfl hl (by decide) rfl (fun ls hl => ?_)
      refine lv_iconst (v := 0) hx hb dX13_ring_17 (by decide) ?_
      refine lv_istore_n (lv' := [(3, .int 0), (2, .null), (0, .ref o), (1, .int i)]) hx hb dX13_ring_18 rfl hl (by decide) rfl (fun ls hl => ?_)
      refine lv_iload_n hx hb dX13_ring_19 rfl (lv_at hl 0 rfl) ?_
      refine lv_iload_n hx hb dX13_ring_20 rfl (lv_at hl 3 rfl) ?_
      refine lv_icmp_ge (tgt := 54) hx hb dX13_ring_21 (by decide) (fun c_21 => ?_) (fun c_21 => ?_)
      · skip
        refine lv_aload_nN hx hb dX13_ring_54 rfl (lv_at hl 1 rfl) ?_
        refine lv_ifnonnullN hx hb dX13_ring_55 ?_
        refine lv_iconst (v := 0) hx hb dX13_ring_58 (by decide) ?_
        refine lv_goto (tgt := 66) hx hb dX13_ring_59 (by decide) ?_
        exact W.iret (v := 0) hx hb hr (fun t ht hW => ⟨⟨_, _, rfl, ⟨rfl, rfl⟩, mk_end hG ht⟩, hS.F ht⟩) hS.2.2 dX13_ring_66
      · skip
        refine lv_aload_nN hx hb dX13_ring_24 rfl (lv_at hl 1 rfl) ?_
        refine lv_ifnullN (tgt := 54) hx hb dX13_ring_25 (by decide) ?_
        refine lv_aload_nN hx hb dX13_ring_54 rfl (lv_at hl 1 rfl) ?_
        refine lv_ifnonnullN hx hb dX13_ring_55 ?_
        refine lv_iconst (v := 0) hx hb dX13_ring_58 (by decide) ?_
        refine lv_goto (tgt := 66) hx hb dX13_ring_59 (by decide) ?_
        exact W.iret (v := 0) hx hb hr (fun t ht hW => ⟨⟨_, _, rfl, ⟨rfl, rfl⟩, mk_end hG ht⟩, hS.F ht⟩) hS.2.2 dX13_ring_66
    · skip
      refine lv_iconst (v := 0) hx hb dX13_ring_10 (by decide) ?_
      exact W.iret (v := 0) hx hb hr (fun t ht hW => ⟨⟨_, _, rfl, ⟨rfl, rfl⟩, mk_end hG ht⟩, hS.F ht⟩) hS.2.2 dX13_ring_11

set_option maxHeartbeats 4000000 in
set_option maxRecDepth 100000 in
theorem c_X13_compare_0 (l : Launch) (D : va_G) (cy : Nat → ClassId) (A : Nat → Prop) (X : State → Prop) (hst : mk_St A X) (hXT : ∀ U : State, X U → TB U) (G : Nat → Option va_E) (o tx rd to se kp : Nat) (tl kc : Int32) (i : Int32) (h0 : G o = some (.inr (14, [.ref tx, .ref rd, .ref to, .ref se, .ref kp, .int tl, .int kc, .null, .null]))) : Met l yX13_compare [.code yX13_compare cX13_compare 3 (some .int)] ({ frames := 0, cells := 0, slots := 0, locals := 0 }) (mk_Pre D vwCl (tyL cy) A X G [.ref o, .int i]) (va_Qi (fun (r : Int32) (G2 : Nat → Option va_E) => r = -1 ∧ G2 = G) (mk_B D vwCl A) A) 0 0 A := by
  refine Met.ofW (cc := cX13_compare) (maxL := 3) (ret := (some .int)) (by decide) rfl ?_
  intro p e s m args below meth c s₁ B hml hv
  obtain ⟨rfl, hG, hK, hA, hX⟩ := hv
  have hx := B.exec
  have hb := B.bytes
  have hr := B.returns
  have hlocks := B.notSynchronized
  have hT := hXT s hX
  have hown : s.vm.findClass RX13 = some m.cls := findClass_of_methodNamed B.named
  have hf_X13 : ∀ w ∈ u_ws RX13 TX13 9, w.before ([.ref o, .int i] : List Value).toArray s = true := tb_list hT fX13
  have hS : va_S A s.heap s.heap [] := va_S.rf
  have hl := lv_entry ([.ref o, .int i]) (n := 3) (Nat.le_of_ble_eq_true rfl)
  rw [lg_entry_eq]
  generalize (lg_sl ([.ref o, .int i]) ++ List.replicate (3 - (lg_sl ([.ref o, .int i])).length) Slot.unset).toArray = ls at hl ⊢
  have hl : lv_has ls 3 [(0, .ref o), (1, .int i)] := hl
  refine lv_aload_n hx hb dX13_compare_0 rfl (lv_at hl 0 rfl) ?_
  refine mm_get (v := .null) hx hb hf_X13 (fun _ h9 => h9) hown hK hG h0 rfl 7 (by decide) (tb_use hT tw_218) (fun _ h9 => h9) rfl dX13_compare_1 ?_
  refine lv_ifnullN (tgt := 25) hx hb dX13_compare_4 (by decide) ?_
  refine lv_iconst (v := (-1)) hx hb dX13_compare_25 (by decide) ?_
  exact W.iret (v := (-1)) hx hb hr (fun t ht hW => ⟨⟨_, _, rfl, ⟨rfl, rfl⟩, mk_end hG ht⟩, hS.F ht⟩) hS.2.2 dX13_compare_26

set_option maxHeartbeats 4000000 in
set_option maxRecDepth 100000 in
theorem c_X13_code_0 (l : Launch) (D : va_G) (cy : Nat → ClassId) (A : Nat → Prop) (X : State → Prop) (hst : mk_St A X) (hXT : ∀ U : State, X U → TB U) (G : Nat → Option va_E) (o tx rd to se kp : Nat) (tl kc : Int32) (i : Int32) (h0 : G o = some (.inr (14, [.ref tx, .ref rd, .ref to, .ref se, .ref kp, .int tl, .int kc, .null, .null]))) : Met l yX13_code [.code yX13_code cX13_code 3 (some .int)] ({ frames := 0, cells := 0, slots := 0, locals := 0 }) (mk_Pre D vwCl (tyL cy) A X G [.ref o, .int i]) (va_Qi (fun (r : Int32) (G2 : Nat → Option va_E) => r = 0 ∧ G2 = G) (mk_B D vwCl A) A) 0 0 A := by
  refine Met.ofW (cc := cX13_code) (maxL := 3) (ret := (some .int)) (by decide) rfl ?_
  intro p e s m args below meth c s₁ B hml hv
  obtain ⟨rfl, hG, hK, hA, hX⟩ := hv
  have hx := B.exec
  have hb := B.bytes
  have hr := B.returns
  have hlocks := B.notSynchronized
  have hT := hXT s hX
  have hown : s.vm.findClass RX13 = some m.cls := findClass_of_methodNamed B.named
  have hf_X13 : ∀ w ∈ u_ws RX13 TX13 9, w.before ([.ref o, .int i] : List Value).toArray s = true := tb_list hT fX13
  have hS : va_S A s.heap s.heap [] := va_S.rf
  have hl := lv_entry ([.ref o, .int i]) (n := 3) (Nat.le_of_ble_eq_true rfl)
  rw [lg_entry_eq]
  generalize (lg_sl ([.ref o, .int i]) ++ List.replicate (3 - (lg_sl ([.ref o, .int i])).length) Slot.unset).toArray = ls at hl ⊢
  have hl : lv_has ls 3 [(0, .ref o), (1, .int i)] := hl
  refine lv_aload_n hx hb dX13_code_0 rfl (lv_at hl 0 rfl) ?_
  refine mm_get (v := .null) hx hb hf_X13 (fun _ h9 => h9) hown hK hG h0 rfl 7 (by decide) (tb_use hT tw_218) (fun _ h9 => h9) rfl dX13_code_1 ?_
  refine lv_ifnonnullN hx hb dX13_code_4 ?_
  refine lv_iconst (v := 0) hx hb dX13_code_7 (by decide) ?_
  exact W.iret (v := 0) hx hb hr (fun t ht hW => ⟨⟨_, _, rfl, ⟨rfl, rfl⟩, mk_end hG ht⟩, hS.F ht⟩) hS.2.2 dX13_code_8
end
section
def oc_n (n : Int32) : Int32 := if n = 64 then 0 else n
theorem oc_lt {n : Int32} (h : n ≤ 64) (h2 : ¬ n = 64) : n < 64 := by
  rw [Int32.lt_iff_toInt_lt]
  have h1 := Int32.le_iff_toInt_le.mp h
  have h3 : n.toInt ≠ 64 := fun z => h2 (Int32.toInt_inj.mp z)
  have h4 : (64 : Int32).toInt = 64 := rfl
  omega
set_option maxHeartbeats 4000000 in
set_option maxRecDepth 100000 in
theorem c_X13_octet (l : Launch) (D : va_G) (cy : Nat → ClassId) (A : Nat → Prop) (X : State → Prop) (hst : mk_St A X) (hXT : ∀ U : State, X U → TB U) (G : Nat → Option va_E) (o tx rd to se kp : Nat) (hd rg : Option Nat) (tl kc : Int32) (ro : Nat) (n bv : Int32) (f : Nat → Int32) (h0 : G o = some (.inr (14, [.ref tx, .ref rd, .ref to, .ref se, .ref kp, .int tl, .int kc, va_rf hd, va_rf rg]))) (h1 : G to = some (.inr (7, [.ref ro, .int n]))) (h2 : G ro = some (.inl (cy 0, 64, .inl f))) (hn0 : ¬ n < 0) (hn64 : n ≤ 64) : Met l yX13_octet [.code yX13_octet cX13_octet 2 none] ({ frames := 1, cells := 0, slots := 0, locals := 60 }) (mk_Pre D vwCl (tyL cy) A X G [.ref o, .int bv]) (va_Qv (fun (G2 : Nat → Option va_E) => G2 to = some (.inr (7, [.ref ro, .int (oc_n n + 1)])) ∧ G2 ro = some (.inl (cy 0, 64, .inl (upd f (oc_n n).toNatClampNeg (vp_nar .byte bv.toInt8.toInt32)))) ∧ ∀ (x : Nat) (e : va_E), G x = some e → x ≠ to → x ≠ ro → G2 x = some e) (mk_B D vwCl A) A) 0 0 A := by
  refine Met.ofW (cc := cX13_octet) (maxL := 2) (ret := none) (by decide) rfl ?_
  intro p e s m args below meth c s₁ B hml hv
  obtain ⟨rfl, hG, hK, hA, hX⟩ := hv
  have hx := B.exec
  have hb := B.bytes
  have hr := B.returns
  have hlocks := B.notSynchronized
  have hT := hXT s hX
  have hown : s.vm.findClass RX13 = some m.cls := findClass_of_methodNamed B.named
  have hf_X13 : ∀ w ∈ u_ws RX13 TX13 9, w.before ([.ref o, .int bv] : List Value).toArray s = true := tb_list hT fX13
  have hf_X6 : ∀ w ∈ u_ws RX6 TX6 2, w.before ([.ref o, .int bv] : List Value).toArray s = true := tb_list hT fX6
  have hS : va_S A s.heap s.heap [] := va_S.rf
  have hl := lv_entry ([.ref o, .int bv]) (n := 2) (Nat.le_of_ble_eq_true rfl)
  rw [lg_entry_eq]
  generalize (lg_sl ([.ref o, .int bv]) ++ List.replicate (2 - (lg_sl ([.ref o, .int bv])).length) Slot.unset).toArray = ls at hl ⊢
  have hl : lv_has ls 2 [(0, .ref o), (1, .int bv)] := hl
  refine lv_aload_n hx hb dX13_octet_0 rfl (lv_at hl 0 rfl) ?_
  refine mm_get (v := .ref to) hx hb hf_X13 (fun _ h9 => h9) hown hK hG h0 rfl 2 (by decide) (tb_use hT tw_213) (fun _ h9 => h9) rfl dX13_octet_1 ?_
  refine mm_getN (v := .int n) hx hb hf_X6 (fun _ h9 => h9) hown hK hG h1 rfl 1 (by decide) (tb_use hT tw_203) (fun _ h9 => h9) rfl dX13_octet_4 ?_
  refine lv_bipush (v := 64) hx hb dX13_octet_7 (by decide) ?_
  refine lv_icmp_ne (tgt := 20) hx hb dX13_octet_9 (by decide) (fun c_9 => ?_) (fun c_9 => ?_)
  · skip
    refine lv_aload_n hx hb dX13_octet_20 rfl (lv_at hl 0 rfl) ?_
    refine mm_get (v := .ref to) hx hb hf_X13 (fun _ h9 => h9) hown hK hG h0 rfl 2 (by decide) (tb_use hT tw_213) (fun _ h9 => h9) rfl dX13_octet_21 ?_
    refine lv_iload_n hx hb dX13_octet_24 rfl (lv_at hl 1 rfl) ?_
    refine va_callv (va_runV (As := [.int bv]) (rest := []) ⟨hx, hb, hml, hown, (fun _ h9 => absurd h9 List.not_mem_nil : ∀ w ∈ ([] : List Cond), w.before _ s = true)⟩ (c_X6_add l D cy A X hst hXT G to ro n bv f h1 h2 hn0 (oc_lt hn64 c_9)) (tb_cw (C := RX6) 1 hT tw_1182 tw_108 tw_1179 tw_1180 tw_1181 rfl rfl (by decide +kernel) ⟨Nat.le_of_ble_eq_true rfl, Nat.le_of_ble_eq_true rfl⟩) (mk_preV hst hG hK hA hX hS (ci := 7) rfl h1) rfl rfl hl.1 rfl (lv_room (Nat.le_of_ble_eq_true rfl)) dX13_octet_25 ⟨Nat.le_of_ble_eq_true rfl, Nat.le_of_ble_eq_true rfl⟩) hS (fun q _ h => h) (fun q h => h) (fun  G1 t H1 locs ht hvm hw hB hz1 hk1 hS => ?_)
    have hG : mm D vwCl A G1 H1 := by rw [← ht]; exact hB
    clear hB hz1 hk1 hvm ht
    generalize H1 = H at hG hS ⊢
    obtain ⟨G2, eG2⟩ : ∃ g, g = mm_set G ro (.inl (cy 0, 64, .inl (upd f n.toNatClampNeg (vp_nar .byte bv.toInt8.toInt32)))) := ⟨_, rfl⟩
    rw [← eG2] at hw
    have k3 : G2 o = some (.inr (14, [.ref tx, .ref rd, .ref to, .ref se, .ref kp, .int tl, .int kc, va_rf hd, va_rf rg])) := by rw [eG2]; exact mm_set_of h0 (mm_ne_oa h0 h2)
    have k4 : G2 to = some (.inr (7, [.ref ro, .int n])) := by rw [eG2]; exact mm_set_of h1 (mm_ne_oa h1 h2)
    have k5 : G2 ro = some (.inl (cy 0, 64, .inl (upd f n.toNatClampNeg (vp_nar .byte bv.toInt8.toInt32)))) := by rw [eG2]; exact mm_set_self
    have k6 : G1 o = some (.inr (14, [.ref tx, .ref rd, .ref to, .ref se, .ref kp, .int tl, .int kc, va_rf hd, va_rf rg])) := by rw [hw]; exact mm_set_of k3 (mm_ne_oo k3 k4 (by decide))
    have k7 : G1 to = some (.inr (7, [.ref ro, .int (n + 1)])) := by rw [hw]; exact mm_set_self
    have k8 : G1 ro = some (.inl (cy 0, 64, .inl (upd f n.toNatClampNeg (vp_nar .byte bv.toInt8.toInt32)))) := by rw [hw]; exact mm_set_of k5 (mm_ne_ao k5 k4)
    have hfr : ∀ (x : Nat) (e : va_E), G x = some e → x ≠ to → x ≠ ro → G1 x = some e := by
      intro x e z0 n_to n_ro
      have z1 : G2 x = some e := by rw [eG2]; exact mm_set_of z0 n_ro
      have z2 : G1 x = some e := by rw [hw]; exact mm_set_of z1 n_to
      exact z2
    exact W.vret hx hb hr (fun t ht hW => ⟨⟨_, rfl, ⟨(by rw [oc_n, if_neg c_9]; exact k7), (by rw [oc_n, if_neg c_9]; exact k8), hfr⟩, mk_end hG ht⟩, hS.F ht⟩) hS.2.2 dX13_octet_28
  · skip
    refine lv_aload_n hx hb dX13_octet_12 rfl (lv_at hl 0 rfl) ?_
    refine mm_get (v := .ref to) hx hb hf_X13 (fun _ h9 => h9) hown hK hG h0 rfl 2 (by decide) (tb_use hT tw_213) (fun _ h9 => h9) rfl dX13_octet_13 ?_
    refine lv_iconst (v := 0) hx hb dX13_octet_16 (by decide) ?_
    refine mm_putN (v := .int 0) (ty := .int) hx hb hf_X6 (fun _ h9 => h9) tyX6 tyX6_ok nmX6 hown hK hG hS h1 rfl 1 (by decide) (tb_use hT tw_203) (fun _ h9 => h9) rfl (by decide +kernel) rfl rfl (Nat.le_of_ble_eq_true rfl) dX13_octet_17 (fun H locs hG hS => ?_)
    obtain ⟨G9, eG9⟩ : ∃ g, g = mm_set G to (.inr (7, [.ref ro, .int 0])) := ⟨_, rfl⟩
    have hG : mm D vwCl A G9 H := by rw [eG9]; exact hG
    have k10 : G9 o = some (.inr (14, [.ref tx, .ref rd, .ref to, .ref se, .ref kp, .int tl, .int kc, va_rf hd, va_rf rg])) := by rw [eG9]; exact mm_set_of h0 (mm_ne_oo h0 h1 (by decide))
    have k11 : G9 to = some (.inr (7, [.ref ro, .int 0])) := by rw [eG9]; exact mm_set_self
    have k12 : G9 ro = some (.inl (cy 0, 64, .inl f)) := by rw [eG9]; exact mm_set_of h2 (mm_ne_ao h2 h1)
    refine lv_aload_n hx hb dX13_octet_20 rfl (lv_at hl 0 rfl) ?_
    refine mm_get (v := .ref to) hx hb hf_X13 (fun _ h9 => h9) hown hK hG k10 rfl 2 (by decide) (tb_use hT tw_213) (fun _ h9 => h9) rfl dX13_octet_21 ?_
    refine lv_iload_n hx hb dX13_octet_24 rfl (lv_at hl 1 rfl) ?_
    refine va_callv (va_runV (As := [.int bv]) (rest := []) ⟨hx, hb, hml, hown, (fun _ h9 => absurd h9 List.not_mem_nil : ∀ w ∈ ([] : List Cond), w.before _ s = true)⟩ (c_X6_add l D cy A X hst hXT G9 to ro 0 bv f k11 k12 (by decide) (by decide)) (tb_cw (C := RX6) 1 hT tw_1182 tw_108 tw_1179 tw_1180 tw_1181 rfl rfl (by decide +kernel) ⟨Nat.le_of_ble_eq_true rfl, Nat.le_of_ble_eq_true rfl⟩) (mk_preV hst hG hK hA hX hS (ci := 7) rfl k11) rfl rfl hl.1 rfl (lv_room (Nat.le_of_ble_eq_true rfl)) dX13_octet_25 ⟨Nat.le_of_ble_eq_true rfl, Nat.le_of_ble_eq_true rfl⟩) hS (fun q _ h => h) (fun q h => h) (fun  G13 t H1 locs ht hvm hw hB hz1 hk1 hS => ?_)
    have hG : mm D vwCl A G13 H1 := by rw [← ht]; exact hB
    clear hB hz1 hk1 hvm ht
    generalize H1 = H at hG hS ⊢
    obtain ⟨G14, eG14⟩ : ∃ g, g = mm_set G9 ro (.inl (cy 0, 64, .inl (upd f (0 : Int32).toNatClampNeg (vp_nar .byte bv.toInt8.toInt32)))) := ⟨_, rfl⟩
    rw [← eG14] at hw
    have k15 : G14 o = some (.inr (14, [.ref tx, .ref rd, .ref to, .ref se, .ref kp, .int tl, .int kc, va_rf hd, va_rf rg])) := by rw [eG14]; exact mm_set_of k10 (mm_ne_oa k10 k12)
    have k16 : G14 to = some (.inr (7, [.ref ro, .int 0])) := by rw [eG14]; exact mm_set_of k11 (mm_ne_oa k11 k12)
    have k17 : G14 ro = some (.inl (cy 0, 64, .inl (upd f (0 : Int32).toNatClampNeg (vp_nar .byte bv.toInt8.toInt32)))) := by rw [eG14]; exact mm_set_self
    have k18 : G13 o = some (.inr (14, [.ref tx, .ref rd, .ref to, .ref se, .ref kp, .int tl, .int kc, va_rf hd, va_rf rg])) := by rw [hw]; exact mm_set_of k15 (mm_ne_oo k15 k16 (by decide))
    have k19 : G13 to = some (.inr (7, [.ref ro, .int (0 + 1)])) := by rw [hw]; exact mm_set_self
    have k20 : G13 ro = some (.inl (cy 0, 64, .inl (upd f (0 : Int32).toNatClampNeg (vp_nar .byte bv.toInt8.toInt32)))) := by rw [hw]; exact mm_set_of k17 (mm_ne_ao k17 k16)
    have hfr : ∀ (x : Nat) (e : va_E), G x = some e → x ≠ to → x ≠ ro → G13 x = some e := by
      intro x e z0 n_to n_ro
      have z1 : G9 x = some e := by rw [eG9]; exact mm_set_of z0 n_to
      have z2 : G14 x = some e := by rw [eG14]; exact mm_set_of z1 n_ro
      have z3 : G13 x = some e := by rw [hw]; exact mm_set_of z2 n_to
      exact z3
    exact W.vret hx hb hr (fun t ht hW => ⟨⟨_, rfl, ⟨(by rw [oc_n, if_pos c_9]; exact k19), (by rw [oc_n, if_pos c_9]; exact k20), hfr⟩, mk_end hG ht⟩, hS.F ht⟩) hS.2.2 dX13_octet_28

set_option maxHeartbeats 4000000 in
set_option maxRecDepth 100000 in
theorem c_X13_init (l : Launch) (D : va_G) (cy : Nat → ClassId) (A : Nat → Prop) (X : State → Prop) (hst : mk_St A X) (hXT : ∀ U : State, X U → TB U) (G : Nat → Option va_E) (o : Nat) (h0 : G o = some (.inr (14, [.null, .null, .null, .null, .null, .int 0, .int 0, .null, .null]))) : Met l yX13_init [.code yX13_init cX13_init 1 none] ({ frames := 3, cells := 12, slots := 8151, locals := 60 }) (mk_Pre D vwCl (tyL cy) A X G [.ref o]) (va_Qv (fun (G2 : Nat → Option va_E) => ∃ tx rd to se kp tk ow ks ss vs ro rs : Nat, G2 o = some (.inr (14, [.ref tx, .ref rd, .ref to, .ref se, .ref kp, .int 0, .int 0, .null, .null])) ∧ G2 tx = some (.inl (cy 0, 2000, .inl (fun _ => 0))) ∧ G2 rd = some (.inr (10, [.ref tk, .ref ow, .null, .int 0, .int 0])) ∧ G2 to = some (.inr (7, [.ref ro, .int 0])) ∧ G2 se = some (.inr (7, [.ref rs, .int 0])) ∧ G2 kp = some (.inl (cy 6, 4, .inr (.inr (.inr (.inr (fun _ => none)))))) ∧ G2 tk = some (.inr (13, [.ref ks, .ref ss, .ref vs, .int 0])) ∧ G2 ow = some (.inl (cy 1, 3, .inl (fun _ => 0))) ∧ G2 ks = some (.inl (cy 5, 2001, .inr (.inr (.inr (.inr (fun _ => none)))))) ∧ G2 ss = some (.inl (cy 1, 2001, .inl (fun _ => 0))) ∧ G2 vs = some (.inl (cy 2, 2001, .inr (.inl (fun _ => 0)))) ∧ G2 ro = some (.inl (cy 0, 64, .inl (fun _ => 0))) ∧ G2 rs = some (.inl (cy 0, 64, .inl (fun _ => 0))) ∧ to ≠ se ∧ ro ≠ rs ∧ ∀ (x : Nat) (e : va_E), G x = some e → x ≠ o → G2 x = some e) (mk_B D vwCl A) A) 12 8151 A := by
  refine Met.ofW (cc := cX13_init) (maxL := 1) (ret := none) (by decide) rfl ?_
  intro p e s m args below meth c s₁ B hml hv
  obtain ⟨rfl, hG, hK, hA, hX⟩ := hv
  have hx := B.exec
  have hb := B.bytes
  have hr := B.returns
  have hlocks := B.notSynchronized
  have hT := hXT s hX
  have hown : s.vm.findClass RX13 = some m.cls := findClass_of_methodNamed B.named
  have hin : meth.name = "<init>" := (name_of_methodNamed B.named B.method).1
  have hf_X13 : ∀ w ∈ u_ws RX13 TX13 9, w.before ([.ref o] : List Value).toArray s = true := tb_list hT fX13
  have hf_X9 : ∀ w ∈ u_ws RX9 TX9 5, w.before ([.ref o] : List Value).toArray s = true := tb_list hT fX9
  have hf_X6 : ∀ w ∈ u_ws RX6 TX6 2, w.before ([.ref o] : List Value).toArray s = true := tb_list hT fX6
  have hS : va_S A s.heap s.heap [] := va_S.rf
  have hl := lv_entry ([.ref o]) (n := 1) (Nat.le_of_ble_eq_true rfl)
  rw [lg_entry_eq]
  generalize (lg_sl ([.ref o]) ++ List.replicate (1 - (lg_sl ([.ref o])).length) Slot.unset).toArray = ls at hl ⊢
  have hl : lv_has ls 1 [(0, .ref o)] := hl
  refine lv_aload_n hx hb dX13_init_0 rfl (lv_at hl 0 rfl) ?_
  refine W.objInit hx hb hown (tb_use hT tw_143) (tb_use hT tw_144) (tb_use hT tw_145) rfl (by rw [hml]; exact hl.1) rfl dX13_init_1 (Nat.le_of_ble_eq_true rfl) (Nat.le_of_ble_eq_true rfl) ?_
  refine W.eq (g2 := F0 m 4 ls []) rfl ?_
  refine lv_aload_n hx hb dX13_init_4 rfl (lv_at hl 0 rfl) ?_
  refine lv_sipush (v := 2000) hx hb dX13_init_5 (by decide) ?_
  refine mm_newa (n := 2000) (atype := .byte) (ty := .byte) (N' := 2000) (a0 := (2000, .inl (fun _ => 0))) hx hb (tb_arr hT tw_174) rfl hK hG hS hA 0 rfl (fun cA => rfl) (by decide) (by decide) (by decide) (by exact Nat.le_of_ble_eq_true rfl) (by exact Nat.le_of_ble_eq_true rfl) dX13_init_8 (fun q1 H hn_q1 hG hS => ?_)
  obtain ⟨G2, eG2⟩ : ∃ g, g = mm_set G q1 (.inl (cy 0, 2000, .inl (fun _ => 0))) := ⟨_, rfl⟩
  have hG : mm D vwCl A G2 H := by rw [eG2]; exact hG
  have k3 : G2 o = some (.inr (14, [.null, .null, .null, .null, .null, .int 0, .int 0, .null, .null])) := by rw [eG2]; exact mm_set_new h0 hn_q1
  have k4 : G2 q1 = some (.inl (cy 0, 2000, .inl (fun _ => 0))) := by rw [eG2]; exact mm_set_self
  refine mm_putF (v := .ref q1) (ty := .array .byte) hx hb hf_X13 (fun _ h9 => h9) tyX13 tyX13_ok nmX13 hown hK hG hS k3 rfl 0 (by decide) (tb_use hT tw_211) (fun _ h9 => h9) rfl hin rfl (by decide +kernel) rfl rfl (Nat.le_of_ble_eq_true rfl) dX13_init_10 (fun H locs hG hS => ?_)
  obtain ⟨G5, eG5⟩ : ∃ g, g = mm_set G2 o (.inr (14, [.ref q1, .null, .null, .null, .null, .int 0, .int 0, .null, .null])) := ⟨_, rfl⟩
  have hG : mm D vwCl A G5 H := by rw [eG5]; exact hG
  have k6 : G5 o = some (.inr (14, [.ref q1, .null, .null, .null, .null, .int 0, .int 0, .null, .null])) := by rw [eG5]; exact mm_set_self
  have k7 : G5 q1 = some (.inl (cy 0, 2000, .inl (fun _ => 0))) := by rw [eG5]; exact mm_set_of k4 (mm_ne_ao k4 k3)
  refine lv_aload_n hx hb dX13_init_13 rfl (lv_at hl 0 rfl) ?_
  refine mm_new (ci := 10) (fs := [.null, .null, .null, .int 0, .int 0]) hx hb hf_X9 (fun _ h9 => h9) tyX9 tyX9_ok hown (tb_use hT tw_146) (tb_use hT tw_147) (tb_use hT tw_106) hK hG hS hA rfl (fun j hj => by rcases (show j = 0 ∨ j = 1 ∨ j = 2 ∨ j = 3 ∨ j = 4 by omega) with rfl | rfl | rfl | rfl | rfl <;> rfl) (by exact Nat.le_of_ble_eq_true rfl) (by exact Nat.le_of_ble_eq_true rfl) dX13_init_14 (fun q8 H hn_q8 hG hS => ?_)
  obtain ⟨G9, eG9⟩ : ∃ g, g = mm_set G5 q8 (.inr (10, [.null, .null, .null, .int 0, .int 0])) := ⟨_, rfl⟩
  have hG : mm D vwCl A G9 H := by rw [eG9]; exact hG
  have k10 : G9 o = some (.inr (14, [.ref q1, .null, .null, .null, .null, .int 0, .int 0, .null, .null])) := by rw [eG9]; exact mm_set_new k6 hn_q8
  have k11 : G9 q1 = some (.inl (cy 0, 2000, .inl (fun _ => 0))) := by rw [eG9]; exact mm_set_new k7 hn_q8
  have k12 : G9 q8 = some (.inr (10, [.null, .null, .null, .int 0, .int 0])) := by rw [eG9]; exact mm_set_self
  refine lv_dup hx hb dX13_init_17 rfl ?_
  refine va_callv (va_runIN (As := []) (rest := [.ref q8, .ref o]) ⟨hx, hb, hml, hown, (fun _ h9 => absurd h9 List.not_mem_nil : ∀ w ∈ ([] : List Cond), w.before _ s = true)⟩ (c_X9_init l D cy A X hst hXT G9 q8 k12) ⟨tb_cn (host := "DescribeText") 0 hT tw_150 tw_106 tw_148 rfl rfl (by decide +kernel) ⟨Nat.le_of_ble_eq_true rfl, Nat.le_of_ble_eq_true rfl⟩, rfl, (tb_use hT tw_149)⟩ (mk_preS hst hG hK hA hX hS) rfl rfl hl.1 rfl (lv_room (Nat.le_of_ble_eq_true rfl)) dX13_init_18 ⟨Nat.le_of_ble_eq_true rfl, Nat.le_of_ble_eq_true rfl⟩) hS (fun q _ h => h) (fun q h => h) (fun  G13 t H1 locs ht hvm hw hB hz1 hk1 hS => ?_)
  have hG : mm D vwCl A G13 H1 := by rw [← ht]; exact hB
  clear hB hz1 hk1 hvm ht
  generalize H1 = H at hG hS ⊢
  obtain ⟨q14, q15, q16, q17, q18, h19_o, h19_1, h19_2, h19_3, h19_4, h19_5, h19_f⟩ := hw
  have k20 : G13 o = some (.inr (14, [.ref q1, .null, .null, .null, .null, .int 0, .int 0, .null, .null])) := h19_f _ _ k10 (mm_ne_oo k10 k12 (by decide))
  have k21 : G13 q1 = some (.inl (cy 0, 2000, .inl (fun _ => 0))) := h19_f _ _ k11 (mm_ne_ao k11 k12)
  refine mm_putF (v := .ref q8) (ty := .object "DescribeText$Reader") hx hb hf_X13 (fun _ h9 => h9) tyX13 tyX13_ok nmX13 hown hK hG hS k20 rfl 1 (by decide) (tb_use hT tw_212) (fun _ h9 => h9) rfl hin rfl (by decide +kernel) rfl rfl (Nat.le_of_ble_eq_true rfl) dX13_init_21 (fun H locs hG hS => ?_)
  obtain ⟨G22, eG22⟩ : ∃ g, g = mm_set G13 o (.inr (14, [.ref q1, .ref q8, .null, .null, .null, .int 0, .int 0, .null, .null])) := ⟨_, rfl⟩
  have hG : mm D vwCl A G22 H := by rw [eG22]; exact hG
  have k23 : G22 o = some (.inr (14, [.ref q1, .ref q8, .null, .null, .null, .int 0, .int 0, .null, .null])) := by rw [eG22]; exact mm_set_self
  have k24 : G22 q1 = some (.inl (cy 0, 2000, .inl (fun _ => 0))) := by rw [eG22]; exact mm_set_of k21 (mm_ne_ao k21 k20)
  have k25 : G22 q8 = some (.inr (10, [.ref q14, .ref q15, .null, .int 0, .int 0])) := by rw [eG22]; exact mm_set_of h19_o (mm_ne_oo h19_o k20 (by decide))
  have k26 : G22 q14 = some (.inr (13, [.ref q16, .ref q17, .ref q18, .int 0])) := by rw [eG22]; exact mm_set_of h19_1 (mm_ne_oo h19_1 k20 (by decide))
  have k27 : G22 q15 = some (.inl (cy 1, 3, .inl (fun _ => 0))) := by rw [eG22]; exact mm_set_of h19_2 (mm_ne_ao h19_2 k20)
  have k28 : G22 q16 = some (.inl (cy 5, 2001, .inr (.inr (.inr (.inr (fun _ => none)))))) := by rw [eG22]; exact mm_set_of h19_3 (mm_ne_ao h19_3 k20)
  have k29 : G22 q17 = some (.inl (cy 1, 2001, .inl (fun _ => 0))) := by rw [eG22]; exact mm_set_of h19_4 (mm_ne_ao h19_4 k20)
  have k30 : G22 q18 = some (.inl (cy 2, 2001, .inr (.inl (fun _ => 0)))) := by rw [eG22]; exact mm_set_of h19_5 (mm_ne_ao h19_5 k20)
  refine lv_aload_n hx hb dX13_init_24 rfl (lv_at hl 0 rfl) ?_
  refine mm_new (ci := 7) (fs := [.null, .int 0]) hx hb hf_X6 (fun _ h9 => h9) tyX6 tyX6_ok hown (tb_use hT tw_193) (tb_use hT tw_194) (tb_use hT tw_108) hK hG hS hA rfl (fun j hj => by rcases (show j = 0 ∨ j = 1 by omega) with rfl | rfl <;> rfl) (by exact Nat.le_of_ble_eq_true rfl) (by exact Nat.le_of_ble_eq_true rfl) dX13_init_25 (fun q31 H hn_q31 hG hS => ?_)
  obtain ⟨G32, eG32⟩ : ∃ g, g = mm_set G22 q31 (.inr (7, [.null, .int 0])) := ⟨_, rfl⟩
  have hG : mm D vwCl A G32 H := by rw [eG32]; exact hG
  have k33 : G32 o = some (.inr (14, [.ref q1, .ref q8, .null, .null, .null, .int 0, .int 0, .null, .null])) := by rw [eG32]; exact mm_set_new k23 hn_q31
  have k34 : G32 q1 = some (.inl (cy 0, 2000, .inl (fun _ => 0))) := by rw [eG32]; exact mm_set_new k24 hn_q31
  have k35 : G32 q8 = some (.inr (10, [.ref q14, .ref q15, .null, .int 0, .int 0])) := by rw [eG32]; exact mm_set_new k25 hn_q31
  have k36 : G32 q14 = some (.inr (13, [.ref q16, .ref q17, .ref q18, .int 0])) := by rw [eG32]; exact mm_set_new k26 hn_q31
  have k37 : G32 q15 = some (.inl (cy 1, 3, .inl (fun _ => 0))) := by rw [eG32]; exact mm_set_new k27 hn_q31
  have k38 : G32 q16 = some (.inl (cy 5, 2001, .inr (.inr (.inr (.inr (fun _ => none)))))) := by rw [eG32]; exact mm_set_new k28 hn_q31
  have k39 : G32 q17 = some (.inl (cy 1, 2001, .inl (fun _ => 0))) := by rw [eG32]; exact mm_set_new k29 hn_q31
  have k40 : G32 q18 = some (.inl (cy 2, 2001, .inr (.inl (fun _ => 0)))) := by rw [eG32]; exact mm_set_new k30 hn_q31
  have k41 : G32 q31 = some (.inr (7, [.null, .int 0])) := by rw [eG32]; exact mm_set_self
  refine lv_dup hx hb dX13_init_28 rfl ?_
  refine va_callv (va_runIN (As := []) (rest := [.ref q31, .ref o]) ⟨hx, hb, hml, hown, (fun _ h9 => absurd h9 List.not_mem_nil : ∀ w ∈ ([] : List Cond), w.before _ s = true)⟩ (c_X6_init l D cy A X hst hXT G32 q31 k41) ⟨tb_cn (host := "DescribeText") 0 hT tw_197 tw_108 tw_195 rfl rfl (by decide +kernel) ⟨Nat.le_of_ble_eq_true rfl, Nat.le_of_ble_eq_true rfl⟩, rfl, (tb_use hT tw_196)⟩ (mk_preS hst hG hK hA hX hS) rfl rfl hl.1 rfl (lv_room (Nat.le_of_ble_eq_true rfl)) dX13_init_29 ⟨Nat.le_of_ble_eq_true rfl, Nat.le_of_ble_eq_true rfl⟩) hS (fun q _ h => h) (fun q h => h) (fun  G42 t H1 locs ht hvm hw hB hz1 hk1 hS => ?_)
  have hG : mm D vwCl A G42 H1 := by rw [← ht]; exact hB
  clear hB hz1 hk1 hvm ht
  generalize H1 = H at hG hS ⊢
  obtain ⟨q43, hn_q43, h44_o, h44_r, h44_f⟩ := hw
  have k45 : G42 o = some (.inr (14, [.ref q1, .ref q8, .null, .null, .null, .int 0, .int 0, .null, .null])) := h44_f _ _ k33 (mm_ne_oo k33 k41 (by decide))
  have k46 : G42 q1 = some (.inl (cy 0, 2000, .inl (fun _ => 0))) := h44_f _ _ k34 (mm_ne_ao k34 k41)
  have k47 : G42 q8 = some (.inr (10, [.ref q14, .ref q15, .null, .int 0, .int 0])) := h44_f _ _ k35 (mm_ne_oo k35 k41 (by decide))
  have k48 : G42 q14 = some (.inr (13, [.ref q16, .ref q17, .ref q18, .int 0])) := h44_f _ _ k36 (mm_ne_oo k36 k41 (by decide))
  have k49 : G42 q15 = some (.inl (cy 1, 3, .inl (fun _ => 0))) := h44_f _ _ k37 (mm_ne_ao k37 k41)
  have k50 : G42 q16 = some (.inl (cy 5, 2001, .inr (.inr (.inr (.inr (fun _ => none)))))) := h44_f _ _ k38 (mm_ne_ao k38 k41)
  have k51 : G42 q17 = some (.inl (cy 1, 2001, .inl (fun _ => 0))) := h44_f _ _ k39 (mm_ne_ao k39 k41)
  have k52 : G42 q18 = some (.inl (cy 2, 2001, .inr (.inl (fun _ => 0)))) := h44_f _ _ k40 (mm_ne_ao k40 k41)
  refine mm_putF (v := .ref q31) (ty := .object "DescribeText$Octets") hx hb hf_X13 (fun _ h9 => h9) tyX13 tyX13_ok nmX13 hown hK hG hS k45 rfl 2 (by decide) (tb_use hT tw_213) (fun _ h9 => h9) rfl hin rfl (by decide +kernel) rfl rfl (Nat.le_of_ble_eq_true rfl) dX13_init_32 (fun H locs hG hS => ?_)
  obtain ⟨G53, eG53⟩ : ∃ g, g = mm_set G42 o (.inr (14, [.ref q1, .ref q8, .ref q31, .null, .null, .int 0, .int 0, .null, .null])) := ⟨_, rfl⟩
  have hG : mm D vwCl A G53 H := by rw [eG53]; exact hG
  have k54 : G53 o = some (.inr (14, [.ref q1, .ref q8, .ref q31, .null, .null, .int 0, .int 0, .null, .null])) := by rw [eG53]; exact mm_set_self
  have k55 : G53 q1 = some (.inl (cy 0, 2000, .inl (fun _ => 0))) := by rw [eG53]; exact mm_set_of k46 (mm_ne_ao k46 k45)
  have k56 : G53 q8 = some (.inr (10, [.ref q14, .ref q15, .null, .int 0, .int 0])) := by rw [eG53]; exact mm_set_of k47 (mm_ne_oo k47 k45 (by decide))
  have k57 : G53 q14 = some (.inr (13, [.ref q16, .ref q17, .ref q18, .int 0])) := by rw [eG53]; exact mm_set_of k48 (mm_ne_oo k48 k45 (by decide))
  have k58 : G53 q15 = some (.inl (cy 1, 3, .inl (fun _ => 0))) := by rw [eG53]; exact mm_set_of k49 (mm_ne_ao k49 k45)
  have k59 : G53 q16 = some (.inl (cy 5, 2001, .inr (.inr (.inr (.inr (fun _ => none)))))) := by rw [eG53]; exact mm_set_of k50 (mm_ne_ao k50 k45)
  have k60 : G53 q17 = some (.inl (cy 1, 2001, .inl (fun _ => 0))) := by rw [eG53]; exact mm_set_of k51 (mm_ne_ao k51 k45)
  have k61 : G53 q18 = some (.inl (cy 2, 2001, .inr (.inl (fun _ => 0)))) := by rw [eG53]; exact mm_set_of k52 (mm_ne_ao k52 k45)
  have k62 : G53 q31 = some (.inr (7, [.ref q43, .int 0])) := by rw [eG53]; exact mm_set_of h44_o (mm_ne_oo h44_o k45 (by decide))
  have k63 : G53 q43 = some (.inl (cy 0, 64, .inl (fun _ => 0))) := by rw [eG53]; exact mm_set_of h44_r (mm_ne_ao h44_r k45)
  refine lv_aload_n hx hb dX13_init_35 rfl (lv_at hl 0 rfl) ?_
  refine mm_new (ci := 7) (fs := [.null, .int 0]) hx hb hf_X6 (fun _ h9 => h9) tyX6 tyX6_ok hown (tb_use hT tw_193) (tb_use hT tw_194) (tb_use hT tw_108) hK hG hS hA rfl (fun j hj => by rcases (show j = 0 ∨ j = 1 by omega) with rfl | rfl <;> rfl) (by exact Nat.le_of_ble_eq_true rfl) (by exact Nat.le_of_ble_eq_true rfl) dX13_init_36 (fun q64 H hn_q64 hG hS => ?_)
  obtain ⟨G65, eG65⟩ : ∃ g, g = mm_set G53 q64 (.inr (7, [.null, .int 0])) := ⟨_, rfl⟩
  have hG : mm D vwCl A G65 H := by rw [eG65]; exact hG
  have ne_q31_q64 : q31 ≠ q64 := mm_ne_new k62 hn_q64
  have k66 : G65 o = some (.inr (14, [.ref q1, .ref q8, .ref q31, .null, .null, .int 0, .int 0, .null, .null])) := by rw [eG65]; exact mm_set_new k54 hn_q64
  have k67 : G65 q1 = some (.inl (cy 0, 2000, .inl (fun _ => 0))) := by rw [eG65]; exact mm_set_new k55 hn_q64
  have k68 : G65 q8 = some (.inr (10, [.ref q14, .ref q15, .null, .int 0, .int 0])) := by rw [eG65]; exact mm_set_new k56 hn_q64
  have k69 : G65 q14 = some (.inr (13, [.ref q16, .ref q17, .ref q18, .int 0])) := by rw [eG65]; exact mm_set_new k57 hn_q64
  have k70 : G65 q15 = some (.inl (cy 1, 3, .inl (fun _ => 0))) := by rw [eG65]; exact mm_set_new k58 hn_q64
  have k71 : G65 q16 = some (.inl (cy 5, 2001, .inr (.inr (.inr (.inr (fun _ => none)))))) := by rw [eG65]; exact mm_set_new k59 hn_q64
  have k72 : G65 q17 = some (.inl (cy 1, 2001, .inl (fun _ => 0))) := by rw [eG65]; exact mm_set_new k60 hn_q64
  have k73 : G65 q18 = some (.inl (cy 2, 2001, .inr (.inl (fun _ => 0)))) := by rw [eG65]; exact mm_set_new k61 hn_q64
  have k74 : G65 q31 = some (.inr (7, [.ref q43, .int 0])) := by rw [eG65]; exact mm_set_new k62 hn_q64
  have k75 : G65 q43 = some (.inl (cy 0, 64, .inl (fun _ => 0))) := by rw [eG65]; exact mm_set_new k63 hn_q64
  have k76 : G65 q64 = some (.inr (7, [.null, .int 0])) := by rw [eG65]; exact mm_set_self
  refine lv_dup hx hb dX13_init_39 rfl ?_
  refine va_callv (va_runIN (As := []) (rest := [.ref q64, .ref o]) ⟨hx, hb, hml, hown, (fun _ h9 => absurd h9 List.not_mem_nil : ∀ w ∈ ([] : List Cond), w.before _ s = true)⟩ (c_X6_init l D cy A X hst hXT G65 q64 k76) ⟨tb_cn (host := "DescribeText") 0 hT tw_197 tw_108 tw_195 rfl rfl (by decide +kernel) ⟨Nat.le_of_ble_eq_true rfl, Nat.le_of_ble_eq_true rfl⟩, rfl, (tb_use hT tw_196)⟩ (mk_preS hst hG hK hA hX hS) rfl rfl hl.1 rfl (lv_room (Nat.le_of_ble_eq_true rfl)) dX13_init_40 ⟨Nat.le_of_ble_eq_true rfl, Nat.le_of_ble_eq_true rfl⟩) hS (fun q _ h => h) (fun q h => h) (fun  G77 t H1 locs ht hvm hw hB hz1 hk1 hS => ?_)
  have hG : mm D vwCl A G77 H1 := by rw [← ht]; exact hB
  clear hB hz1 hk1 hvm ht
  generalize H1 = H at hG hS ⊢
  obtain ⟨q78, hn_q78, h79_o, h79_r, h79_f⟩ := hw
  have k80 : G77 o = some (.inr (14, [.ref q1, .ref q8, .ref q31, .null, .null, .int 0, .int 0, .null, .null])) := h79_f _ _ k66 (mm_ne_oo k66 k76 (by decide))
  have k81 : G77 q1 = some (.inl (cy 0, 2000, .inl (fun _ => 0))) := h79_f _ _ k67 (mm_ne_ao k67 k76)
  have k82 : G77 q8 = some (.inr (10, [.ref q14, .ref q15, .null, .int 0, .int 0])) := h79_f _ _ k68 (mm_ne_oo k68 k76 (by decide))
  have k83 : G77 q14 = some (.inr (13, [.ref q16, .ref q17, .ref q18, .int 0])) := h79_f _ _ k69 (mm_ne_oo k69 k76 (by decide))
  have k84 : G77 q15 = some (.inl (cy 1, 3, .inl (fun _ => 0))) := h79_f _ _ k70 (mm_ne_ao k70 k76)
  have k85 : G77 q16 = some (.inl (cy 5, 2001, .inr (.inr (.inr (.inr (fun _ => none)))))) := h79_f _ _ k71 (mm_ne_ao k71 k76)
  have k86 : G77 q17 = some (.inl (cy 1, 2001, .inl (fun _ => 0))) := h79_f _ _ k72 (mm_ne_ao k72 k76)
  have k87 : G77 q18 = some (.inl (cy 2, 2001, .inr (.inl (fun _ => 0)))) := h79_f _ _ k73 (mm_ne_ao k73 k76)
  have k88 : G77 q31 = some (.inr (7, [.ref q43, .int 0])) := h79_f _ _ k74 ne_q31_q64
  have k89 : G77 q43 = some (.inl (cy 0, 64, .inl (fun _ => 0))) := h79_f _ _ k75 (mm_ne_ao k75 k76)
  have ne_q43_q78 : q43 ≠ q78 := mm_ne_new k75 hn_q78
  refine mm_putF (v := .ref q64) (ty := .object "DescribeText$Octets") hx hb hf_X13 (fun _ h9 => h9) tyX13 tyX13_ok nmX13 hown hK hG hS k80 rfl 3 (by decide) (tb_use hT tw_214) (fun _ h9 => h9) rfl hin rfl (by decide +kernel) rfl rfl (Nat.le_of_ble_eq_true rfl) dX13_init_43 (fun H locs hG hS => ?_)
  obtain ⟨G90, eG90⟩ : ∃ g, g = mm_set G77 o (.inr (14, [.ref q1, .ref q8, .ref q31, .ref q64, .null, .int 0, .int 0, .null, .null])) := ⟨_, rfl⟩
  have hG : mm D vwCl A G90 H := by rw [eG90]; exact hG
  have k91 : G90 o = some (.inr (14, [.ref q1, .ref q8, .ref q31, .ref q64, .null, .int 0, .int 0, .null, .null])) := by rw [eG90]; exact mm_set_self
  have k92 : G90 q1 = some (.inl (cy 0, 2000, .inl (fun _ => 0))) := by rw [eG90]; exact mm_set_of k81 (mm_ne_ao k81 k80)
  have k93 : G90 q8 = some (.inr (10, [.ref q14, .ref q15, .null, .int 0, .int 0])) := by rw [eG90]; exact mm_set_of k82 (mm_ne_oo k82 k80 (by decide))
  have k94 : G90 q14 = some (.inr (13, [.ref q16, .ref q17, .ref q18, .int 0])) := by rw [eG90]; exact mm_set_of k83 (mm_ne_oo k83 k80 (by decide))
  have k95 : G90 q15 = some (.inl (cy 1, 3, .inl (fun _ => 0))) := by rw [eG90]; exact mm_set_of k84 (mm_ne_ao k84 k80)
  have k96 : G90 q16 = some (.inl (cy 5, 2001, .inr (.inr (.inr (.inr (fun _ => none)))))) := by rw [eG90]; exact mm_set_of k85 (mm_ne_ao k85 k80)
  have k97 : G90 q17 = some (.inl (cy 1, 2001, .inl (fun _ => 0))) := by rw [eG90]; exact mm_set_of k86 (mm_ne_ao k86 k80)
  have k98 : G90 q18 = some (.inl (cy 2, 2001, .inr (.inl (fun _ => 0)))) := by rw [eG90]; exact mm_set_of k87 (mm_ne_ao k87 k80)
  have k99 : G90 q31 = some (.inr (7, [.ref q43, .int 0])) := by rw [eG90]; exact mm_set_of k88 (mm_ne_oo k88 k80 (by decide))
  have k100 : G90 q43 = some (.inl (cy 0, 64, .inl (fun _ => 0))) := by rw [eG90]; exact mm_set_of k89 (mm_ne_ao k89 k80)
  have k101 : G90 q64 = some (.inr (7, [.ref q78, .int 0])) := by rw [eG90]; exact mm_set_of h79_o (mm_ne_oo h79_o k80 (by decide))
  have k102 : G90 q78 = some (.inl (cy 0, 64, .inl (fun _ => 0))) := by rw [eG90]; exact mm_set_of h79_r (mm_ne_ao h79_r k80)
  refine lv_aload_n hx hb dX13_init_46 rfl (lv_at hl 0 rfl) ?_
  refine lv_iconst (v := 4) hx hb dX13_init_47 (by decide) ?_
  refine mm_newq (n := 4) (N' := 4) hx hb hown (tb_use hT tw_209) (hT _ tw_210 rfl) hK hG hS hA 6 rfl (by decide) (by decide) (by decide) (by exact Nat.le_of_ble_eq_true rfl) (by exact Nat.le_of_ble_eq_true rfl) dX13_init_48 (fun q103 H hn_q103 hG hS => ?_)
  obtain ⟨G104, eG104⟩ : ∃ g, g = mm_set G90 q103 (.inl (cy 6, 4, .inr (.inr (.inr (.inr (fun _ => none)))))) := ⟨_, rfl⟩
  have hG : mm D vwCl A G104 H := by rw [eG104]; exact hG
  have k105 : G104 o = some (.inr (14, [.ref q1, .ref q8, .ref q31, .ref q64, .null, .int 0, .int 0, .null, .null])) := by rw [eG104]; exact mm_set_new k91 hn_q103
  have k106 : G104 q1 = some (.inl (cy 0, 2000, .inl (fun _ => 0))) := by rw [eG104]; exact mm_set_new k92 hn_q103
  have k107 : G104 q8 = some (.inr (10, [.ref q14, .ref q15, .null, .int 0, .int 0])) := by rw [eG104]; exact mm_set_new k93 hn_q103
  have k108 : G104 q14 = some (.inr (13, [.ref q16, .ref q17, .ref q18, .int 0])) := by rw [eG104]; exact mm_set_new k94 hn_q103
  have k109 : G104 q15 = some (.inl (cy 1, 3, .inl (fun _ => 0))) := by rw [eG104]; exact mm_set_new k95 hn_q103
  have k110 : G104 q16 = some (.inl (cy 5, 2001, .inr (.inr (.inr (.inr (fun _ => none)))))) := by rw [eG104]; exact mm_set_new k96 hn_q103
  have k111 : G104 q17 = some (.inl (cy 1, 2001, .inl (fun _ => 0))) := by rw [eG104]; exact mm_set_new k97 hn_q103
  have k112 : G104 q18 = some (.inl (cy 2, 2001, .inr (.inl (fun _ => 0)))) := by rw [eG104]; exact mm_set_new k98 hn_q103
  have k113 : G104 q31 = some (.inr (7, [.ref q43, .int 0])) := by rw [eG104]; exact mm_set_new k99 hn_q103
  have k114 : G104 q43 = some (.inl (cy 0, 64, .inl (fun _ => 0))) := by rw [eG104]; exact mm_set_new k100 hn_q103
  have k115 : G104 q64 = some (.inr (7, [.ref q78, .int 0])) := by rw [eG104]; exact mm_set_new k101 hn_q103
  have k116 : G104 q78 = some (.inl (cy 0, 64, .inl (fun _ => 0))) := by rw [eG104]; exact mm_set_new k102 hn_q103
  have k117 : G104 q103 = some (.inl (cy 6, 4, .inr (.inr (.inr (.inr (fun _ => none)))))) := by rw [eG104]; exact mm_set_self
  refine mm_putF (v := .ref q103) (ty := .array (.object "DescribeText$Edition")) hx hb hf_X13 (fun _ h9 => h9) tyX13 tyX13_ok nmX13 hown hK hG hS k105 rfl 4 (by decide) (tb_use hT tw_215) (fun _ h9 => h9) rfl hin rfl (by decide +kernel) rfl rfl (Nat.le_of_ble_eq_true rfl) dX13_init_51 (fun H locs hG hS => ?_)
  obtain ⟨G118, eG118⟩ : ∃ g, g = mm_set G104 o (.inr (14, [.ref q1, .ref q8, .ref q31, .ref q64, .ref q103, .int 0, .int 0, .null, .null])) := ⟨_, rfl⟩
  have hG : mm D vwCl A G118 H := by rw [eG118]; exact hG
  have k119 : G118 o = some (.inr (14, [.ref q1, .ref q8, .ref q31, .ref q64, .ref q103, .int 0, .int 0, .null, .null])) := by rw [eG118]; exact mm_set_self
  have k120 : G118 q1 = some (.inl (cy 0, 2000, .inl (fun _ => 0))) := by rw [eG118]; exact mm_set_of k106 (mm_ne_ao k106 k105)
  have k121 : G118 q8 = some (.inr (10, [.ref q14, .ref q15, .null, .int 0, .int 0])) := by rw [eG118]; exact mm_set_of k107 (mm_ne_oo k107 k105 (by decide))
  have k122 : G118 q14 = some (.inr (13, [.ref q16, .ref q17, .ref q18, .int 0])) := by rw [eG118]; exact mm_set_of k108 (mm_ne_oo k108 k105 (by decide))
  have k123 : G118 q15 = some (.inl (cy 1, 3, .inl (fun _ => 0))) := by rw [eG118]; exact mm_set_of k109 (mm_ne_ao k109 k105)
  have k124 : G118 q16 = some (.inl (cy 5, 2001, .inr (.inr (.inr (.inr (fun _ => none)))))) := by rw [eG118]; exact mm_set_of k110 (mm_ne_ao k110 k105)
  have k125 : G118 q17 = some (.inl (cy 1, 2001, .inl (fun _ => 0))) := by rw [eG118]; exact mm_set_of k111 (mm_ne_ao k111 k105)
  have k126 : G118 q18 = some (.inl (cy 2, 2001, .inr (.inl (fun _ => 0)))) := by rw [eG118]; exact mm_set_of k112 (mm_ne_ao k112 k105)
  have k127 : G118 q31 = some (.inr (7, [.ref q43, .int 0])) := by rw [eG118]; exact mm_set_of k113 (mm_ne_oo k113 k105 (by decide))
  have k128 : G118 q43 = some (.inl (cy 0, 64, .inl (fun _ => 0))) := by rw [eG118]; exact mm_set_of k114 (mm_ne_ao k114 k105)
  have k129 : G118 q64 = some (.inr (7, [.ref q78, .int 0])) := by rw [eG118]; exact mm_set_of k115 (mm_ne_oo k115 k105 (by decide))
  have k130 : G118 q78 = some (.inl (cy 0, 64, .inl (fun _ => 0))) := by rw [eG118]; exact mm_set_of k116 (mm_ne_ao k116 k105)
  have k131 : G118 q103 = some (.inl (cy 6, 4, .inr (.inr (.inr (.inr (fun _ => none)))))) := by rw [eG118]; exact mm_set_of k117 (mm_ne_ao k117 k105)
  have hfr : ∀ (x : Nat) (e : va_E), G x = some e → x ≠ o → G118 x = some e := by
    intro x e z0 n_o
    have n_q1 : x ≠ q1 := fun z => by rw [z, hn_q1] at z0; cases z0
    have z1 : G2 x = some e := by rw [eG2]; exact mm_set_of z0 n_q1
    have z2 : G5 x = some e := by rw [eG5]; exact mm_set_of z1 n_o
    have n_q8 : x ≠ q8 := fun z => by rw [z, hn_q8] at z2; cases z2
    have z3 : G9 x = some e := by rw [eG9]; exact mm_set_of z2 n_q8
    have z4 : G13 x = some e := h19_f x e z3 n_q8
    have z5 : G22 x = some e := by rw [eG22]; exact mm_set_of z4 n_o
    have n_q31 : x ≠ q31 := fun z => by rw [z, hn_q31] at z5; cases z5
    have z6 : G32 x = some e := by rw [eG32]; exact mm_set_of z5 n_q31
    have z7 : G42 x = some e := h44_f x e z6 n_q31
    have z8 : G53 x = some e := by rw [eG53]; exact mm_set_of z7 n_o
    have n_q64 : x ≠ q64 := fun z => by rw [z, hn_q64] at z8; cases z8
    have z9 : G65 x = some e := by rw [eG65]; exact mm_set_of z8 n_q64
    have z10 : G77 x = some e := h79_f x e z9 n_q64
    have z11 : G90 x = some e := by rw [eG90]; exact mm_set_of z10 n_o
    have n_q103 : x ≠ q103 := fun z => by rw [z, hn_q103] at z11; cases z11
    have z12 : G104 x = some e := by rw [eG104]; exact mm_set_of z11 n_q103
    have z13 : G118 x = some e := by rw [eG118]; exact mm_set_of z12 n_o
    exact z13
  exact W.vret hx hb hr (fun t ht hW => ⟨⟨_, rfl, ⟨q1, q8, q31, q64, q103, q14, q15, q16, q17, q18, q43, q78, k119, k120, k121, k127, k129, k131, k122, k123, k124, k125, k126, k128, k130, ne_q31_q64, ne_q43_q78, hfr⟩, mk_end hG ht⟩, hS.F ht⟩) hS.2.2 dX13_init_54
end
