-- ===== PART A: goes FIRST, ahead of the names: the tables' words, and 'selects' of the private methods out of them =====
/-- a private method of a class that the tables say can be made, by its rows of tables_1 -/
def lw_okq (q : MethodName × Nat) : Prop := (q.1.cls ≠ "java/lang/invoke/MethodHandle" ∧ q.1.cls ≠ "java/lang/invoke/VarHandle") ∧ Cond.instantiable q.1.cls q.2 ∈ tables_1 ∧ Cond.privateMethod q.1 ∈ tables_1 ∧ Cond.instanceMethod q.1 ∈ tables_1
theorem lw_p0 : lw_okq (⟨"WillowLaw$Tokens", "kindAt", "(I)I"⟩, 6) := ⟨⟨by decide +kernel, by decide +kernel⟩, List.mem_of_getElem? (i := 208) (by decide +kernel), List.mem_of_getElem? (i := 435) (by decide +kernel), List.mem_of_getElem? (i := 436) (by decide +kernel)⟩
theorem lw_p1 : lw_okq (⟨"WillowLaw$Tokens", "takeNumber", "()V"⟩, 6) := ⟨⟨by decide +kernel, by decide +kernel⟩, List.mem_of_getElem? (i := 208) (by decide +kernel), List.mem_of_getElem? (i := 439) (by decide +kernel), List.mem_of_getElem? (i := 440) (by decide +kernel)⟩
theorem lw_p2 : lw_okq (⟨"WillowLaw$Reader", "goesOn", "()Z"⟩, 9) := ⟨⟨by decide +kernel, by decide +kernel⟩, List.mem_of_getElem? (i := 194) (by decide +kernel), List.mem_of_getElem? (i := 443) (by decide +kernel), List.mem_of_getElem? (i := 444) (by decide +kernel)⟩
theorem lw_p3 : lw_okq (⟨"WillowLaw$Reader", "readBasketLine", "()V"⟩, 9) := ⟨⟨by decide +kernel, by decide +kernel⟩, List.mem_of_getElem? (i := 194) (by decide +kernel), List.mem_of_getElem? (i := 447) (by decide +kernel), List.mem_of_getElem? (i := 448) (by decide +kernel)⟩
theorem lw_p4 : lw_okq (⟨"WillowLaw$Reader", "readWord", "(Ljava/lang/String;)Z"⟩, 9) := ⟨⟨by decide +kernel, by decide +kernel⟩, List.mem_of_getElem? (i := 194) (by decide +kernel), List.mem_of_getElem? (i := 452) (by decide +kernel), List.mem_of_getElem? (i := 453) (by decide +kernel)⟩
theorem lw_p5 : lw_okq (⟨"WillowLaw$Reader", "readNumber", "(II)I"⟩, 9) := ⟨⟨by decide +kernel, by decide +kernel⟩, List.mem_of_getElem? (i := 194) (by decide +kernel), List.mem_of_getElem? (i := 509) (by decide +kernel), List.mem_of_getElem? (i := 510) (by decide +kernel)⟩
theorem lw_p6 : lw_okq (⟨"WillowLaw$Reader", "refuse", "()V"⟩, 9) := ⟨⟨by decide +kernel, by decide +kernel⟩, List.mem_of_getElem? (i := 194) (by decide +kernel), List.mem_of_getElem? (i := 513) (by decide +kernel), List.mem_of_getElem? (i := 514) (by decide +kernel)⟩
theorem lw_p7 : lw_okq (⟨"WillowLaw$Reader", "note", "(II)V"⟩, 9) := ⟨⟨by decide +kernel, by decide +kernel⟩, List.mem_of_getElem? (i := 194) (by decide +kernel), List.mem_of_getElem? (i := 517) (by decide +kernel), List.mem_of_getElem? (i := 518) (by decide +kernel)⟩
theorem lw_p8 : lw_okq (⟨"WillowLaw$Reader", "readColumn", "()I"⟩, 9) := ⟨⟨by decide +kernel, by decide +kernel⟩, List.mem_of_getElem? (i := 194) (by decide +kernel), List.mem_of_getElem? (i := 522) (by decide +kernel), List.mem_of_getElem? (i := 523) (by decide +kernel)⟩
theorem lw_p9 : lw_okq (⟨"WillowLaw$Reader", "readRow", "()I"⟩, 9) := ⟨⟨by decide +kernel, by decide +kernel⟩, List.mem_of_getElem? (i := 194) (by decide +kernel), List.mem_of_getElem? (i := 529) (by decide +kernel), List.mem_of_getElem? (i := 530) (by decide +kernel)⟩
theorem lw_p10 : lw_okq (⟨"WillowLaw$Reader", "readTwig", "(II)V"⟩, 9) := ⟨⟨by decide +kernel, by decide +kernel⟩, List.mem_of_getElem? (i := 194) (by decide +kernel), List.mem_of_getElem? (i := 537) (by decide +kernel), List.mem_of_getElem? (i := 538) (by decide +kernel)⟩
theorem lw_p11 : lw_okq (⟨"WillowLaw$Reader", "readYearLine", "()V"⟩, 9) := ⟨⟨by decide +kernel, by decide +kernel⟩, List.mem_of_getElem? (i := 194) (by decide +kernel), List.mem_of_getElem? (i := 547) (by decide +kernel), List.mem_of_getElem? (i := 548) (by decide +kernel)⟩
theorem lw_p12 : lw_okq (⟨"WillowLaw$Reader", "readCare", "(I)V"⟩, 9) := ⟨⟨by decide +kernel, by decide +kernel⟩, List.mem_of_getElem? (i := 194) (by decide +kernel), List.mem_of_getElem? (i := 557) (by decide +kernel), List.mem_of_getElem? (i := 558) (by decide +kernel)⟩
theorem lw_p13 : lw_okq (⟨"WillowLaw$Reader", "readParishLine", "()V"⟩, 9) := ⟨⟨by decide +kernel, by decide +kernel⟩, List.mem_of_getElem? (i := 194) (by decide +kernel), List.mem_of_getElem? (i := 565) (by decide +kernel), List.mem_of_getElem? (i := 566) (by decide +kernel)⟩
theorem lw_p14 : lw_okq (⟨"WillowLaw$Reader", "readCluesLine", "()V"⟩, 9) := ⟨⟨by decide +kernel, by decide +kernel⟩, List.mem_of_getElem? (i := 194) (by decide +kernel), List.mem_of_getElem? (i := 579) (by decide +kernel), List.mem_of_getElem? (i := 580) (by decide +kernel)⟩
theorem lw_p15 : lw_okq (⟨"WillowLaw$Reader", "readClueWord", "()I"⟩, 9) := ⟨⟨by decide +kernel, by decide +kernel⟩, List.mem_of_getElem? (i := 194) (by decide +kernel), List.mem_of_getElem? (i := 583) (by decide +kernel), List.mem_of_getElem? (i := 584) (by decide +kernel)⟩
def lw_privs_1 : List (MethodName × Nat) := [(⟨"WillowLaw$Tokens", "kindAt", "(I)I"⟩, 6), (⟨"WillowLaw$Tokens", "takeNumber", "()V"⟩, 6), (⟨"WillowLaw$Reader", "goesOn", "()Z"⟩, 9), (⟨"WillowLaw$Reader", "readBasketLine", "()V"⟩, 9), (⟨"WillowLaw$Reader", "readWord", "(Ljava/lang/String;)Z"⟩, 9), (⟨"WillowLaw$Reader", "readNumber", "(II)I"⟩, 9), (⟨"WillowLaw$Reader", "refuse", "()V"⟩, 9), (⟨"WillowLaw$Reader", "note", "(II)V"⟩, 9), (⟨"WillowLaw$Reader", "readColumn", "()I"⟩, 9), (⟨"WillowLaw$Reader", "readRow", "()I"⟩, 9), (⟨"WillowLaw$Reader", "readTwig", "(II)V"⟩, 9), (⟨"WillowLaw$Reader", "readYearLine", "()V"⟩, 9), (⟨"WillowLaw$Reader", "readCare", "(I)V"⟩, 9), (⟨"WillowLaw$Reader", "readParishLine", "()V"⟩, 9), (⟨"WillowLaw$Reader", "readCluesLine", "()V"⟩, 9), (⟨"WillowLaw$Reader", "readClueWord", "()I"⟩, 9)]
theorem lw_r1 : ∀ q ∈ lw_privs_1, lw_okq q := List.forall_mem_cons.mpr ⟨lw_p0, List.forall_mem_cons.mpr ⟨lw_p1, List.forall_mem_cons.mpr ⟨lw_p2, List.forall_mem_cons.mpr ⟨lw_p3, List.forall_mem_cons.mpr ⟨lw_p4, List.forall_mem_cons.mpr ⟨lw_p5, List.forall_mem_cons.mpr ⟨lw_p6, List.forall_mem_cons.mpr ⟨lw_p7, List.forall_mem_cons.mpr ⟨lw_p8, List.forall_mem_cons.mpr ⟨lw_p9, List.forall_mem_cons.mpr ⟨lw_p10, List.forall_mem_cons.mpr ⟨lw_p11, List.forall_mem_cons.mpr ⟨lw_p12, List.forall_mem_cons.mpr ⟨lw_p13, List.forall_mem_cons.mpr ⟨lw_p14, List.forall_mem_cons.mpr ⟨lw_p15, fun _ h => absurd h List.not_mem_nil⟩⟩⟩⟩⟩⟩⟩⟩⟩⟩⟩⟩⟩⟩⟩⟩
theorem lw_p16 : lw_okq (⟨"WillowLaw$Reader", "readStop", "()V"⟩, 9) := ⟨⟨by decide +kernel, by decide +kernel⟩, List.mem_of_getElem? (i := 194) (by decide +kernel), List.mem_of_getElem? (i := 594) (by decide +kernel), List.mem_of_getElem? (i := 595) (by decide +kernel)⟩
theorem lw_p17 : lw_okq (⟨"WillowLaw$Reader", "lookForAll", "(II)V"⟩, 9) := ⟨⟨by decide +kernel, by decide +kernel⟩, List.mem_of_getElem? (i := 194) (by decide +kernel), List.mem_of_getElem? (i := 598) (by decide +kernel), List.mem_of_getElem? (i := 599) (by decide +kernel)⟩
theorem lw_p18 : lw_okq (⟨"WillowLaw$Basket", "strengthIn", "(II)I"⟩, 7) := ⟨⟨by decide +kernel, by decide +kernel⟩, List.mem_of_getElem? (i := 44) (by decide +kernel), List.mem_of_getElem? (i := 688) (by decide +kernel), List.mem_of_getElem? (i := 689) (by decide +kernel)⟩
theorem lw_p19 : lw_okq (⟨"WillowLaw$Basket", "gapIn", "(JII)I"⟩, 7) := ⟨⟨by decide +kernel, by decide +kernel⟩, List.mem_of_getElem? (i := 44) (by decide +kernel), List.mem_of_getElem? (i := 712) (by decide +kernel), List.mem_of_getElem? (i := 713) (by decide +kernel)⟩
theorem lw_p20 : lw_okq (⟨"WillowLaw$Basket", "sumUp", "()V"⟩, 7) := ⟨⟨by decide +kernel, by decide +kernel⟩, List.mem_of_getElem? (i := 44) (by decide +kernel), List.mem_of_getElem? (i := 723) (by decide +kernel), List.mem_of_getElem? (i := 724) (by decide +kernel)⟩
theorem lw_p21 : lw_okq (⟨"WillowLaw$Basket", "sumTo", "(II)I"⟩, 7) := ⟨⟨by decide +kernel, by decide +kernel⟩, List.mem_of_getElem? (i := 44) (by decide +kernel), List.mem_of_getElem? (i := 727) (by decide +kernel), List.mem_of_getElem? (i := 728) (by decide +kernel)⟩
theorem lw_p22 : lw_okq (⟨"WillowLaw$Strokes", "findGaps", "(LWillowLaw$Basket;II)V"⟩, 4) := ⟨⟨by decide +kernel, by decide +kernel⟩, List.mem_of_getElem? (i := 296) (by decide +kernel), List.mem_of_getElem? (i := 759) (by decide +kernel), List.mem_of_getElem? (i := 760) (by decide +kernel)⟩
theorem lw_p23 : lw_okq (⟨"WillowLaw$Strokes", "leastInAll", "(J)I"⟩, 4) := ⟨⟨by decide +kernel, by decide +kernel⟩, List.mem_of_getElem? (i := 296) (by decide +kernel), List.mem_of_getElem? (i := 764) (by decide +kernel), List.mem_of_getElem? (i := 765) (by decide +kernel)⟩
theorem lw_p24 : lw_okq (⟨"WillowLaw$Strokes", "closeTwo", "()Z"⟩, 4) := ⟨⟨by decide +kernel, by decide +kernel⟩, List.mem_of_getElem? (i := 296) (by decide +kernel), List.mem_of_getElem? (i := 776) (by decide +kernel), List.mem_of_getElem? (i := 777) (by decide +kernel)⟩
theorem lw_p25 : lw_okq (⟨"WillowLaw$Strokes", "closeThree", "()Z"⟩, 4) := ⟨⟨by decide +kernel, by decide +kernel⟩, List.mem_of_getElem? (i := 296) (by decide +kernel), List.mem_of_getElem? (i := 780) (by decide +kernel), List.mem_of_getElem? (i := 781) (by decide +kernel)⟩
theorem lw_p26 : lw_okq (⟨"WillowLaw$Strokes", "lower", "(LWillowLaw$Basket;I)Z"⟩, 4) := ⟨⟨by decide +kernel, by decide +kernel⟩, List.mem_of_getElem? (i := 296) (by decide +kernel), List.mem_of_getElem? (i := 817) (by decide +kernel), List.mem_of_getElem? (i := 818) (by decide +kernel)⟩
theorem lw_p27 : lw_okq (⟨"WillowLaw$Strokes", "keyAt", "(I)I"⟩, 4) := ⟨⟨by decide +kernel, by decide +kernel⟩, List.mem_of_getElem? (i := 296) (by decide +kernel), List.mem_of_getElem? (i := 823) (by decide +kernel), List.mem_of_getElem? (i := 824) (by decide +kernel)⟩
theorem lw_p28 : lw_okq (⟨"WillowLaw$Basket", "joinedTo", "(J)J"⟩, 7) := ⟨⟨by decide +kernel, by decide +kernel⟩, List.mem_of_getElem? (i := 44) (by decide +kernel), List.mem_of_getElem? (i := 853) (by decide +kernel), List.mem_of_getElem? (i := 854) (by decide +kernel)⟩
theorem lw_p29 : lw_okq (⟨"WillowLaw$Basket", "openIn", "(J)I"⟩, 7) := ⟨⟨by decide +kernel, by decide +kernel⟩, List.mem_of_getElem? (i := 44) (by decide +kernel), List.mem_of_getElem? (i := 912) (by decide +kernel), List.mem_of_getElem? (i := 913) (by decide +kernel)⟩
theorem lw_p30 : lw_okq (⟨"WillowLaw$Season", "strike", "(III)V"⟩, 5) := ⟨⟨by decide +kernel, by decide +kernel⟩, List.mem_of_getElem? (i := 271) (by decide +kernel), List.mem_of_getElem? (i := 955) (by decide +kernel), List.mem_of_getElem? (i := 956) (by decide +kernel)⟩
theorem lw_p31 : lw_okq (⟨"WillowLaw$Season", "mend", "(II)Z"⟩, 5) := ⟨⟨by decide +kernel, by decide +kernel⟩, List.mem_of_getElem? (i := 271) (by decide +kernel), List.mem_of_getElem? (i := 966) (by decide +kernel), List.mem_of_getElem? (i := 967) (by decide +kernel)⟩
def lw_privs_2 : List (MethodName × Nat) := [(⟨"WillowLaw$Reader", "readStop", "()V"⟩, 9), (⟨"WillowLaw$Reader", "lookForAll", "(II)V"⟩, 9), (⟨"WillowLaw$Basket", "strengthIn", "(II)I"⟩, 7), (⟨"WillowLaw$Basket", "gapIn", "(JII)I"⟩, 7), (⟨"WillowLaw$Basket", "sumUp", "()V"⟩, 7), (⟨"WillowLaw$Basket", "sumTo", "(II)I"⟩, 7), (⟨"WillowLaw$Strokes", "findGaps", "(LWillowLaw$Basket;II)V"⟩, 4), (⟨"WillowLaw$Strokes", "leastInAll", "(J)I"⟩, 4), (⟨"WillowLaw$Strokes", "closeTwo", "()Z"⟩, 4), (⟨"WillowLaw$Strokes", "closeThree", "()Z"⟩, 4), (⟨"WillowLaw$Strokes", "lower", "(LWillowLaw$Basket;I)Z"⟩, 4), (⟨"WillowLaw$Strokes", "keyAt", "(I)I"⟩, 4), (⟨"WillowLaw$Basket", "joinedTo", "(J)J"⟩, 7), (⟨"WillowLaw$Basket", "openIn", "(J)I"⟩, 7), (⟨"WillowLaw$Season", "strike", "(III)V"⟩, 5), (⟨"WillowLaw$Season", "mend", "(II)Z"⟩, 5)]
theorem lw_r2 : ∀ q ∈ lw_privs_2, lw_okq q := List.forall_mem_cons.mpr ⟨lw_p16, List.forall_mem_cons.mpr ⟨lw_p17, List.forall_mem_cons.mpr ⟨lw_p18, List.forall_mem_cons.mpr ⟨lw_p19, List.forall_mem_cons.mpr ⟨lw_p20, List.forall_mem_cons.mpr ⟨lw_p21, List.forall_mem_cons.mpr ⟨lw_p22, List.forall_mem_cons.mpr ⟨lw_p23, List.forall_mem_cons.mpr ⟨lw_p24, List.forall_mem_cons.mpr ⟨lw_p25, List.forall_mem_cons.mpr ⟨lw_p26, List.forall_mem_cons.mpr ⟨lw_p27, List.forall_mem_cons.mpr ⟨lw_p28, List.forall_mem_cons.mpr ⟨lw_p29, List.forall_mem_cons.mpr ⟨lw_p30, List.forall_mem_cons.mpr ⟨lw_p31, fun _ h => absurd h List.not_mem_nil⟩⟩⟩⟩⟩⟩⟩⟩⟩⟩⟩⟩⟩⟩⟩⟩
theorem lw_p32 : lw_okq (⟨"WillowLaw$Season", "grow", "(II)Z"⟩, 5) := ⟨⟨by decide +kernel, by decide +kernel⟩, List.mem_of_getElem? (i := 271) (by decide +kernel), List.mem_of_getElem? (i := 972) (by decide +kernel), List.mem_of_getElem? (i := 973) (by decide +kernel)⟩
theorem lw_p33 : lw_okq (⟨"WillowLaw$Season", "weave", "(II)Z"⟩, 5) := ⟨⟨by decide +kernel, by decide +kernel⟩, List.mem_of_getElem? (i := 271) (by decide +kernel), List.mem_of_getElem? (i := 976) (by decide +kernel), List.mem_of_getElem? (i := 977) (by decide +kernel)⟩
theorem lw_p34 : lw_okq (⟨"WillowLaw$Season", "winter", "()V"⟩, 5) := ⟨⟨by decide +kernel, by decide +kernel⟩, List.mem_of_getElem? (i := 271) (by decide +kernel), List.mem_of_getElem? (i := 983) (by decide +kernel), List.mem_of_getElem? (i := 984) (by decide +kernel)⟩
theorem lw_p35 : lw_okq (⟨"WillowLaw$Season", "turn", "(Z)Z"⟩, 5) := ⟨⟨by decide +kernel, by decide +kernel⟩, List.mem_of_getElem? (i := 271) (by decide +kernel), List.mem_of_getElem? (i := 988) (by decide +kernel), List.mem_of_getElem? (i := 989) (by decide +kernel)⟩
theorem lw_p36 : lw_okq (⟨"WillowLaw$Season", "drawBelow", "(I)I"⟩, 5) := ⟨⟨by decide +kernel, by decide +kernel⟩, List.mem_of_getElem? (i := 271) (by decide +kernel), List.mem_of_getElem? (i := 1014) (by decide +kernel), List.mem_of_getElem? (i := 1015) (by decide +kernel)⟩
theorem lw_p37 : lw_okq (⟨"WillowLaw$Season", "drawDeed", "(I)V"⟩, 5) := ⟨⟨by decide +kernel, by decide +kernel⟩, List.mem_of_getElem? (i := 271) (by decide +kernel), List.mem_of_getElem? (i := 1019) (by decide +kernel), List.mem_of_getElem? (i := 1020) (by decide +kernel)⟩
theorem lw_p38 : lw_okq (⟨"WillowLaw$Season", "drawWeave", "()V"⟩, 5) := ⟨⟨by decide +kernel, by decide +kernel⟩, List.mem_of_getElem? (i := 271) (by decide +kernel), List.mem_of_getElem? (i := 1023) (by decide +kernel), List.mem_of_getElem? (i := 1024) (by decide +kernel)⟩
theorem lw_p39 : lw_okq (⟨"WillowLaw$Saw", "wholeRods", "(LWillowLaw$Parish;Z)V"⟩, 7) := ⟨⟨by decide +kernel, by decide +kernel⟩, List.mem_of_getElem? (i := 318) (by decide +kernel), List.mem_of_getElem? (i := 1055) (by decide +kernel), List.mem_of_getElem? (i := 1056) (by decide +kernel)⟩
theorem lw_p40 : lw_okq (⟨"WillowLaw$Saw", "pack", "(LWillowLaw$Parish;I)I"⟩, 7) := ⟨⟨by decide +kernel, by decide +kernel⟩, List.mem_of_getElem? (i := 318) (by decide +kernel), List.mem_of_getElem? (i := 1059) (by decide +kernel), List.mem_of_getElem? (i := 1060) (by decide +kernel)⟩
theorem lw_p41 : lw_okq (⟨"WillowLaw$Saw", "packInto", "(II)V"⟩, 7) := ⟨⟨by decide +kernel, by decide +kernel⟩, List.mem_of_getElem? (i := 318) (by decide +kernel), List.mem_of_getElem? (i := 1070) (by decide +kernel), List.mem_of_getElem? (i := 1071) (by decide +kernel)⟩
theorem lw_p42 : lw_okq (⟨"WillowLaw$Saw", "firstRodFor", "(LWillowLaw$Parish;II)I"⟩, 7) := ⟨⟨by decide +kernel, by decide +kernel⟩, List.mem_of_getElem? (i := 318) (by decide +kernel), List.mem_of_getElem? (i := 1088) (by decide +kernel), List.mem_of_getElem? (i := 1089) (by decide +kernel)⟩
theorem lw_p43 : lw_okq (⟨"WillowLaw$Saw", "cutOff", "(III)V"⟩, 7) := ⟨⟨by decide +kernel, by decide +kernel⟩, List.mem_of_getElem? (i := 318) (by decide +kernel), List.mem_of_getElem? (i := 1092) (by decide +kernel), List.mem_of_getElem? (i := 1093) (by decide +kernel)⟩
theorem lw_p44 : lw_okq (⟨"WillowLaw$Saw", "mostOf", "(LWillowLaw$Parish;II)I"⟩, 7) := ⟨⟨by decide +kernel, by decide +kernel⟩, List.mem_of_getElem? (i := 318) (by decide +kernel), List.mem_of_getElem? (i := 1121) (by decide +kernel), List.mem_of_getElem? (i := 1122) (by decide +kernel)⟩
theorem lw_p45 : lw_okq (⟨"WillowLaw$Search", "look", "(LWillowLaw$Clues;IZ)V"⟩, 5) := ⟨⟨by decide +kernel, by decide +kernel⟩, List.mem_of_getElem? (i := 348) (by decide +kernel), List.mem_of_getElem? (i := 1145) (by decide +kernel), List.mem_of_getElem? (i := 1146) (by decide +kernel)⟩
theorem lw_p46 : lw_okq (⟨"WillowLaw$Search", "lookAtSize", "(LWillowLaw$Clues;II)V"⟩, 5) := ⟨⟨by decide +kernel, by decide +kernel⟩, List.mem_of_getElem? (i := 348) (by decide +kernel), List.mem_of_getElem? (i := 1149) (by decide +kernel), List.mem_of_getElem? (i := 1150) (by decide +kernel)⟩
theorem lw_p47 : lw_okq (⟨"WillowLaw$Search", "tally", "(IIII)V"⟩, 5) := ⟨⟨by decide +kernel, by decide +kernel⟩, List.mem_of_getElem? (i := 348) (by decide +kernel), List.mem_of_getElem? (i := 1160) (by decide +kernel), List.mem_of_getElem? (i := 1161) (by decide +kernel)⟩
def lw_privs_3 : List (MethodName × Nat) := [(⟨"WillowLaw$Season", "grow", "(II)Z"⟩, 5), (⟨"WillowLaw$Season", "weave", "(II)Z"⟩, 5), (⟨"WillowLaw$Season", "winter", "()V"⟩, 5), (⟨"WillowLaw$Season", "turn", "(Z)Z"⟩, 5), (⟨"WillowLaw$Season", "drawBelow", "(I)I"⟩, 5), (⟨"WillowLaw$Season", "drawDeed", "(I)V"⟩, 5), (⟨"WillowLaw$Season", "drawWeave", "()V"⟩, 5), (⟨"WillowLaw$Saw", "wholeRods", "(LWillowLaw$Parish;Z)V"⟩, 7), (⟨"WillowLaw$Saw", "pack", "(LWillowLaw$Parish;I)I"⟩, 7), (⟨"WillowLaw$Saw", "packInto", "(II)V"⟩, 7), (⟨"WillowLaw$Saw", "firstRodFor", "(LWillowLaw$Parish;II)I"⟩, 7), (⟨"WillowLaw$Saw", "cutOff", "(III)V"⟩, 7), (⟨"WillowLaw$Saw", "mostOf", "(LWillowLaw$Parish;II)I"⟩, 7), (⟨"WillowLaw$Search", "look", "(LWillowLaw$Clues;IZ)V"⟩, 5), (⟨"WillowLaw$Search", "lookAtSize", "(LWillowLaw$Clues;II)V"⟩, 5), (⟨"WillowLaw$Search", "tally", "(IIII)V"⟩, 5)]
theorem lw_r3 : ∀ q ∈ lw_privs_3, lw_okq q := List.forall_mem_cons.mpr ⟨lw_p32, List.forall_mem_cons.mpr ⟨lw_p33, List.forall_mem_cons.mpr ⟨lw_p34, List.forall_mem_cons.mpr ⟨lw_p35, List.forall_mem_cons.mpr ⟨lw_p36, List.forall_mem_cons.mpr ⟨lw_p37, List.forall_mem_cons.mpr ⟨lw_p38, List.forall_mem_cons.mpr ⟨lw_p39, List.forall_mem_cons.mpr ⟨lw_p40, List.forall_mem_cons.mpr ⟨lw_p41, List.forall_mem_cons.mpr ⟨lw_p42, List.forall_mem_cons.mpr ⟨lw_p43, List.forall_mem_cons.mpr ⟨lw_p44, List.forall_mem_cons.mpr ⟨lw_p45, List.forall_mem_cons.mpr ⟨lw_p46, List.forall_mem_cons.mpr ⟨lw_p47, fun _ h => absurd h List.not_mem_nil⟩⟩⟩⟩⟩⟩⟩⟩⟩⟩⟩⟩⟩⟩⟩⟩
theorem lw_p48 : lw_okq (⟨"WillowLawModel", "four", "(I)V"⟩, 51) := ⟨⟨by decide +kernel, by decide +kernel⟩, List.mem_of_getElem? (i := 1177) (by decide +kernel), List.mem_of_getElem? (i := 1342) (by decide +kernel), List.mem_of_getElem? (i := 1343) (by decide +kernel)⟩
theorem lw_p49 : lw_okq (⟨"WillowLawModel", "is", "(II)Z"⟩, 51) := ⟨⟨by decide +kernel, by decide +kernel⟩, List.mem_of_getElem? (i := 1177) (by decide +kernel), List.mem_of_getElem? (i := 1357) (by decide +kernel), List.mem_of_getElem? (i := 1358) (by decide +kernel)⟩
theorem lw_p50 : lw_okq (⟨"WillowLawModel", "readText", "(I)Z"⟩, 51) := ⟨⟨by decide +kernel, by decide +kernel⟩, List.mem_of_getElem? (i := 1177) (by decide +kernel), List.mem_of_getElem? (i := 1361) (by decide +kernel), List.mem_of_getElem? (i := 1362) (by decide +kernel)⟩
theorem lw_p51 : lw_okq (⟨"WillowLawModel", "blank", "(I)V"⟩, 51) := ⟨⟨by decide +kernel, by decide +kernel⟩, List.mem_of_getElem? (i := 1177) (by decide +kernel), List.mem_of_getElem? (i := 1365) (by decide +kernel), List.mem_of_getElem? (i := 1366) (by decide +kernel)⟩
theorem lw_p52 : lw_okq (⟨"WillowLawModel", "token", "()V"⟩, 51) := ⟨⟨by decide +kernel, by decide +kernel⟩, List.mem_of_getElem? (i := 1177) (by decide +kernel), List.mem_of_getElem? (i := 1369) (by decide +kernel), List.mem_of_getElem? (i := 1370) (by decide +kernel)⟩
theorem lw_p53 : lw_okq (⟨"WillowLawModel", "see", "()I"⟩, 51) := ⟨⟨by decide +kernel, by decide +kernel⟩, List.mem_of_getElem? (i := 1177) (by decide +kernel), List.mem_of_getElem? (i := 1373) (by decide +kernel), List.mem_of_getElem? (i := 1374) (by decide +kernel)⟩
theorem lw_p54 : lw_okq (⟨"WillowLawModel", "lines", "(I)Z"⟩, 51) := ⟨⟨by decide +kernel, by decide +kernel⟩, List.mem_of_getElem? (i := 1177) (by decide +kernel), List.mem_of_getElem? (i := 1377) (by decide +kernel), List.mem_of_getElem? (i := 1378) (by decide +kernel)⟩
theorem lw_p55 : lw_okq (⟨"WillowLawModel", "lineOf", "(IJI)Z"⟩, 51) := ⟨⟨by decide +kernel, by decide +kernel⟩, List.mem_of_getElem? (i := 1177) (by decide +kernel), List.mem_of_getElem? (i := 1381) (by decide +kernel), List.mem_of_getElem? (i := 1382) (by decide +kernel)⟩
theorem lw_p56 : lw_okq (⟨"WillowLawModel", "basketLine", "(J)Z"⟩, 51) := ⟨⟨by decide +kernel, by decide +kernel⟩, List.mem_of_getElem? (i := 1177) (by decide +kernel), List.mem_of_getElem? (i := 1385) (by decide +kernel), List.mem_of_getElem? (i := 1386) (by decide +kernel)⟩
theorem lw_p57 : lw_okq (⟨"WillowLawModel", "fails", "()Z"⟩, 51) := ⟨⟨by decide +kernel, by decide +kernel⟩, List.mem_of_getElem? (i := 1177) (by decide +kernel), List.mem_of_getElem? (i := 1394) (by decide +kernel), List.mem_of_getElem? (i := 1395) (by decide +kernel)⟩
theorem lw_p58 : lw_okq (⟨"WillowLawModel", "sizeLine", "()Z"⟩, 51) := ⟨⟨by decide +kernel, by decide +kernel⟩, List.mem_of_getElem? (i := 1177) (by decide +kernel), List.mem_of_getElem? (i := 1398) (by decide +kernel), List.mem_of_getElem? (i := 1399) (by decide +kernel)⟩
theorem lw_p59 : lw_okq (⟨"WillowLawModel", "take", "(III)Z"⟩, 51) := ⟨⟨by decide +kernel, by decide +kernel⟩, List.mem_of_getElem? (i := 1177) (by decide +kernel), List.mem_of_getElem? (i := 1402) (by decide +kernel), List.mem_of_getElem? (i := 1403) (by decide +kernel)⟩
theorem lw_p60 : lw_okq (⟨"WillowLawModel", "later", "(II)V"⟩, 51) := ⟨⟨by decide +kernel, by decide +kernel⟩, List.mem_of_getElem? (i := 1177) (by decide +kernel), List.mem_of_getElem? (i := 1406) (by decide +kernel), List.mem_of_getElem? (i := 1407) (by decide +kernel)⟩
theorem lw_p61 : lw_okq (⟨"WillowLawModel", "openLine", "()Z"⟩, 51) := ⟨⟨by decide +kernel, by decide +kernel⟩, List.mem_of_getElem? (i := 1177) (by decide +kernel), List.mem_of_getElem? (i := 1410) (by decide +kernel), List.mem_of_getElem? (i := 1411) (by decide +kernel)⟩
theorem lw_p62 : lw_okq (⟨"WillowLawModel", "takeCell", "(I)Z"⟩, 51) := ⟨⟨by decide +kernel, by decide +kernel⟩, List.mem_of_getElem? (i := 1177) (by decide +kernel), List.mem_of_getElem? (i := 1414) (by decide +kernel), List.mem_of_getElem? (i := 1415) (by decide +kernel)⟩
theorem lw_p63 : lw_okq (⟨"WillowLawModel", "rodLine", "(Z)Z"⟩, 51) := ⟨⟨by decide +kernel, by decide +kernel⟩, List.mem_of_getElem? (i := 1177) (by decide +kernel), List.mem_of_getElem? (i := 1421) (by decide +kernel), List.mem_of_getElem? (i := 1422) (by decide +kernel)⟩
def lw_privs_4 : List (MethodName × Nat) := [(⟨"WillowLawModel", "four", "(I)V"⟩, 51), (⟨"WillowLawModel", "is", "(II)Z"⟩, 51), (⟨"WillowLawModel", "readText", "(I)Z"⟩, 51), (⟨"WillowLawModel", "blank", "(I)V"⟩, 51), (⟨"WillowLawModel", "token", "()V"⟩, 51), (⟨"WillowLawModel", "see", "()I"⟩, 51), (⟨"WillowLawModel", "lines", "(I)Z"⟩, 51), (⟨"WillowLawModel", "lineOf", "(IJI)Z"⟩, 51), (⟨"WillowLawModel", "basketLine", "(J)Z"⟩, 51), (⟨"WillowLawModel", "fails", "()Z"⟩, 51), (⟨"WillowLawModel", "sizeLine", "()Z"⟩, 51), (⟨"WillowLawModel", "take", "(III)Z"⟩, 51), (⟨"WillowLawModel", "later", "(II)V"⟩, 51), (⟨"WillowLawModel", "openLine", "()Z"⟩, 51), (⟨"WillowLawModel", "takeCell", "(I)Z"⟩, 51), (⟨"WillowLawModel", "rodLine", "(Z)Z"⟩, 51)]
theorem lw_r4 : ∀ q ∈ lw_privs_4, lw_okq q := List.forall_mem_cons.mpr ⟨lw_p48, List.forall_mem_cons.mpr ⟨lw_p49, List.forall_mem_cons.mpr ⟨lw_p50, List.forall_mem_cons.mpr ⟨lw_p51, List.forall_mem_cons.mpr ⟨lw_p52, List.forall_mem_cons.mpr ⟨lw_p53, List.forall_mem_cons.mpr ⟨lw_p54, List.forall_mem_cons.mpr ⟨lw_p55, List.forall_mem_cons.mpr ⟨lw_p56, List.forall_mem_cons.mpr ⟨lw_p57, List.forall_mem_cons.mpr ⟨lw_p58, List.forall_mem_cons.mpr ⟨lw_p59, List.forall_mem_cons.mpr ⟨lw_p60, List.forall_mem_cons.mpr ⟨lw_p61, List.forall_mem_cons.mpr ⟨lw_p62, List.forall_mem_cons.mpr ⟨lw_p63, fun _ h => absurd h List.not_mem_nil⟩⟩⟩⟩⟩⟩⟩⟩⟩⟩⟩⟩⟩⟩⟩⟩
theorem lw_p64 : lw_okq (⟨"WillowLawModel", "yearLine", "(JI)Z"⟩, 51) := ⟨⟨by decide +kernel, by decide +kernel⟩, List.mem_of_getElem? (i := 1177) (by decide +kernel), List.mem_of_getElem? (i := 1425) (by decide +kernel), List.mem_of_getElem? (i := 1426) (by decide +kernel)⟩
theorem lw_p65 : lw_okq (⟨"WillowLawModel", "full", "(III)V"⟩, 51) := ⟨⟨by decide +kernel, by decide +kernel⟩, List.mem_of_getElem? (i := 1177) (by decide +kernel), List.mem_of_getElem? (i := 1438) (by decide +kernel), List.mem_of_getElem? (i := 1439) (by decide +kernel)⟩
theorem lw_p66 : lw_okq (⟨"WillowLawModel", "takeSide", "()Z"⟩, 51) := ⟨⟨by decide +kernel, by decide +kernel⟩, List.mem_of_getElem? (i := 1177) (by decide +kernel), List.mem_of_getElem? (i := 1442) (by decide +kernel), List.mem_of_getElem? (i := 1443) (by decide +kernel)⟩
theorem lw_p67 : lw_okq (⟨"WillowLawModel", "keep", "(IIII)V"⟩, 51) := ⟨⟨by decide +kernel, by decide +kernel⟩, List.mem_of_getElem? (i := 1177) (by decide +kernel), List.mem_of_getElem? (i := 1446) (by decide +kernel), List.mem_of_getElem? (i := 1447) (by decide +kernel)⟩
theorem lw_p68 : lw_okq (⟨"WillowLawModel", "parishLine", "(JI)Z"⟩, 51) := ⟨⟨by decide +kernel, by decide +kernel⟩, List.mem_of_getElem? (i := 1177) (by decide +kernel), List.mem_of_getElem? (i := 1450) (by decide +kernel), List.mem_of_getElem? (i := 1451) (by decide +kernel)⟩
theorem lw_p69 : lw_okq (⟨"WillowLawModel", "clueLine", "(JI)Z"⟩, 51) := ⟨⟨by decide +kernel, by decide +kernel⟩, List.mem_of_getElem? (i := 1177) (by decide +kernel), List.mem_of_getElem? (i := 1456) (by decide +kernel), List.mem_of_getElem? (i := 1457) (by decide +kernel)⟩
theorem lw_p70 : lw_okq (⟨"WillowLawModel", "storeAll", "(II)V"⟩, 51) := ⟨⟨by decide +kernel, by decide +kernel⟩, List.mem_of_getElem? (i := 1177) (by decide +kernel), List.mem_of_getElem? (i := 1463) (by decide +kernel), List.mem_of_getElem? (i := 1464) (by decide +kernel)⟩
theorem lw_p71 : lw_okq (⟨"WillowLawModel", "store", "([III)V"⟩, 51) := ⟨⟨by decide +kernel, by decide +kernel⟩, List.mem_of_getElem? (i := 1177) (by decide +kernel), List.mem_of_getElem? (i := 1467) (by decide +kernel), List.mem_of_getElem? (i := 1468) (by decide +kernel)⟩
theorem lw_p72 : lw_okq (⟨"WillowLawModel", "hand", "(I)Z"⟩, 51) := ⟨⟨by decide +kernel, by decide +kernel⟩, List.mem_of_getElem? (i := 1177) (by decide +kernel), List.mem_of_getElem? (i := 1479) (by decide +kernel), List.mem_of_getElem? (i := 1480) (by decide +kernel)⟩
theorem lw_p73 : lw_okq (⟨"WillowLawModel", "of", "(I)I"⟩, 51) := ⟨⟨by decide +kernel, by decide +kernel⟩, List.mem_of_getElem? (i := 1177) (by decide +kernel), List.mem_of_getElem? (i := 1483) (by decide +kernel), List.mem_of_getElem? (i := 1484) (by decide +kernel)⟩
theorem lw_p74 : lw_okq (⟨"WillowLawModel", "openMany", "()I"⟩, 51) := ⟨⟨by decide +kernel, by decide +kernel⟩, List.mem_of_getElem? (i := 1177) (by decide +kernel), List.mem_of_getElem? (i := 1487) (by decide +kernel), List.mem_of_getElem? (i := 1488) (by decide +kernel)⟩
theorem lw_p75 : lw_okq (⟨"WillowLawModel", "ofRods", "(I)I"⟩, 51) := ⟨⟨by decide +kernel, by decide +kernel⟩, List.mem_of_getElem? (i := 1177) (by decide +kernel), List.mem_of_getElem? (i := 1497) (by decide +kernel), List.mem_of_getElem? (i := 1498) (by decide +kernel)⟩
theorem lw_p76 : lw_okq (⟨"WillowLawModel", "isOpen", "(I)Z"⟩, 51) := ⟨⟨by decide +kernel, by decide +kernel⟩, List.mem_of_getElem? (i := 1177) (by decide +kernel), List.mem_of_getElem? (i := 1501) (by decide +kernel), List.mem_of_getElem? (i := 1502) (by decide +kernel)⟩
theorem lw_p77 : lw_okq (⟨"WillowLawModel", "strength", "(I)I"⟩, 51) := ⟨⟨by decide +kernel, by decide +kernel⟩, List.mem_of_getElem? (i := 1177) (by decide +kernel), List.mem_of_getElem? (i := 1505) (by decide +kernel), List.mem_of_getElem? (i := 1506) (by decide +kernel)⟩
theorem lw_p78 : lw_okq (⟨"WillowLawModel", "slipsBy", "(II)I"⟩, 51) := ⟨⟨by decide +kernel, by decide +kernel⟩, List.mem_of_getElem? (i := 1177) (by decide +kernel), List.mem_of_getElem? (i := 1516) (by decide +kernel), List.mem_of_getElem? (i := 1517) (by decide +kernel)⟩
theorem lw_p79 : lw_okq (⟨"WillowLawModel", "isPlace", "(III)Z"⟩, 51) := ⟨⟨by decide +kernel, by decide +kernel⟩, List.mem_of_getElem? (i := 1177) (by decide +kernel), List.mem_of_getElem? (i := 1520) (by decide +kernel), List.mem_of_getElem? (i := 1521) (by decide +kernel)⟩
def lw_privs_5 : List (MethodName × Nat) := [(⟨"WillowLawModel", "yearLine", "(JI)Z"⟩, 51), (⟨"WillowLawModel", "full", "(III)V"⟩, 51), (⟨"WillowLawModel", "takeSide", "()Z"⟩, 51), (⟨"WillowLawModel", "keep", "(IIII)V"⟩, 51), (⟨"WillowLawModel", "parishLine", "(JI)Z"⟩, 51), (⟨"WillowLawModel", "clueLine", "(JI)Z"⟩, 51), (⟨"WillowLawModel", "storeAll", "(II)V"⟩, 51), (⟨"WillowLawModel", "store", "([III)V"⟩, 51), (⟨"WillowLawModel", "hand", "(I)Z"⟩, 51), (⟨"WillowLawModel", "of", "(I)I"⟩, 51), (⟨"WillowLawModel", "openMany", "()I"⟩, 51), (⟨"WillowLawModel", "ofRods", "(I)I"⟩, 51), (⟨"WillowLawModel", "isOpen", "(I)Z"⟩, 51), (⟨"WillowLawModel", "strength", "(I)I"⟩, 51), (⟨"WillowLawModel", "slipsBy", "(II)I"⟩, 51), (⟨"WillowLawModel", "isPlace", "(III)Z"⟩, 51)]
theorem lw_r5 : ∀ q ∈ lw_privs_5, lw_okq q := List.forall_mem_cons.mpr ⟨lw_p64, List.forall_mem_cons.mpr ⟨lw_p65, List.forall_mem_cons.mpr ⟨lw_p66, List.forall_mem_cons.mpr ⟨lw_p67, List.forall_mem_cons.mpr ⟨lw_p68, List.forall_mem_cons.mpr ⟨lw_p69, List.forall_mem_cons.mpr ⟨lw_p70, List.forall_mem_cons.mpr ⟨lw_p71, List.forall_mem_cons.mpr ⟨lw_p72, List.forall_mem_cons.mpr ⟨lw_p73, List.forall_mem_cons.mpr ⟨lw_p74, List.forall_mem_cons.mpr ⟨lw_p75, List.forall_mem_cons.mpr ⟨lw_p76, List.forall_mem_cons.mpr ⟨lw_p77, List.forall_mem_cons.mpr ⟨lw_p78, List.forall_mem_cons.mpr ⟨lw_p79, fun _ h => absurd h List.not_mem_nil⟩⟩⟩⟩⟩⟩⟩⟩⟩⟩⟩⟩⟩⟩⟩⟩
theorem lw_p80 : lw_okq (⟨"WillowLawModel", "holdsAt", "(IIIZ)I"⟩, 51) := ⟨⟨by decide +kernel, by decide +kernel⟩, List.mem_of_getElem? (i := 1177) (by decide +kernel), List.mem_of_getElem? (i := 1524) (by decide +kernel), List.mem_of_getElem? (i := 1525) (by decide +kernel)⟩
theorem lw_p81 : lw_okq (⟨"WillowLawModel", "isWithin", "(II)Z"⟩, 51) := ⟨⟨by decide +kernel, by decide +kernel⟩, List.mem_of_getElem? (i := 1177) (by decide +kernel), List.mem_of_getElem? (i := 1528) (by decide +kernel), List.mem_of_getElem? (i := 1529) (by decide +kernel)⟩
theorem lw_p82 : lw_okq (⟨"WillowLawModel", "weakest", "(IIZ)I"⟩, 51) := ⟨⟨by decide +kernel, by decide +kernel⟩, List.mem_of_getElem? (i := 1177) (by decide +kernel), List.mem_of_getElem? (i := 1532) (by decide +kernel), List.mem_of_getElem? (i := 1533) (by decide +kernel)⟩
theorem lw_p83 : lw_okq (⟨"WillowLawModel", "hasYear", "(I)Z"⟩, 51) := ⟨⟨by decide +kernel, by decide +kernel⟩, List.mem_of_getElem? (i := 1177) (by decide +kernel), List.mem_of_getElem? (i := 1540) (by decide +kernel), List.mem_of_getElem? (i := 1541) (by decide +kernel)⟩
theorem lw_p84 : lw_okq (⟨"WillowLawModel", "deeds", "()I"⟩, 51) := ⟨⟨by decide +kernel, by decide +kernel⟩, List.mem_of_getElem? (i := 1177) (by decide +kernel), List.mem_of_getElem? (i := 1544) (by decide +kernel), List.mem_of_getElem? (i := 1545) (by decide +kernel)⟩
theorem lw_p85 : lw_okq (⟨"WillowLawModel", "deedOf", "(II)I"⟩, 51) := ⟨⟨by decide +kernel, by decide +kernel⟩, List.mem_of_getElem? (i := 1177) (by decide +kernel), List.mem_of_getElem? (i := 1548) (by decide +kernel), List.mem_of_getElem? (i := 1549) (by decide +kernel)⟩
theorem lw_p86 : lw_okq (⟨"WillowLawModel", "layAll", "(II)Z"⟩, 51) := ⟨⟨by decide +kernel, by decide +kernel⟩, List.mem_of_getElem? (i := 1177) (by decide +kernel), List.mem_of_getElem? (i := 1556) (by decide +kernel), List.mem_of_getElem? (i := 1557) (by decide +kernel)⟩
theorem lw_p87 : lw_okq (⟨"WillowLawModel", "play", "(I)I"⟩, 51) := ⟨⟨by decide +kernel, by decide +kernel⟩, List.mem_of_getElem? (i := 1177) (by decide +kernel), List.mem_of_getElem? (i := 1560) (by decide +kernel), List.mem_of_getElem? (i := 1561) (by decide +kernel)⟩
theorem lw_p88 : lw_okq (⟨"WillowLawModel", "begin", "()V"⟩, 51) := ⟨⟨by decide +kernel, by decide +kernel⟩, List.mem_of_getElem? (i := 1177) (by decide +kernel), List.mem_of_getElem? (i := 1564) (by decide +kernel), List.mem_of_getElem? (i := 1565) (by decide +kernel)⟩
theorem lw_p89 : lw_okq (⟨"WillowLawModel", "doesDeed", "(I)Z"⟩, 51) := ⟨⟨by decide +kernel, by decide +kernel⟩, List.mem_of_getElem? (i := 1177) (by decide +kernel), List.mem_of_getElem? (i := 1568) (by decide +kernel), List.mem_of_getElem? (i := 1569) (by decide +kernel)⟩
theorem lw_p90 : lw_okq (⟨"WillowLawModel", "does", "(IIII)Z"⟩, 51) := ⟨⟨by decide +kernel, by decide +kernel⟩, List.mem_of_getElem? (i := 1177) (by decide +kernel), List.mem_of_getElem? (i := 1572) (by decide +kernel), List.mem_of_getElem? (i := 1573) (by decide +kernel)⟩
theorem lw_p91 : lw_okq (⟨"WillowLawModel", "comes", "(III)Z"⟩, 51) := ⟨⟨by decide +kernel, by decide +kernel⟩, List.mem_of_getElem? (i := 1177) (by decide +kernel), List.mem_of_getElem? (i := 1576) (by decide +kernel), List.mem_of_getElem? (i := 1577) (by decide +kernel)⟩
theorem lw_p92 : lw_okq (⟨"WillowLawModel", "tends", "(III)Z"⟩, 51) := ⟨⟨by decide +kernel, by decide +kernel⟩, List.mem_of_getElem? (i := 1177) (by decide +kernel), List.mem_of_getElem? (i := 1580) (by decide +kernel), List.mem_of_getElem? (i := 1581) (by decide +kernel)⟩
theorem lw_p93 : lw_okq (⟨"WillowLawModel", "weaves", "(II)Z"⟩, 51) := ⟨⟨by decide +kernel, by decide +kernel⟩, List.mem_of_getElem? (i := 1177) (by decide +kernel), List.mem_of_getElem? (i := 1584) (by decide +kernel), List.mem_of_getElem? (i := 1585) (by decide +kernel)⟩
theorem lw_p94 : lw_okq (⟨"WillowLawModel", "winters", "()Z"⟩, 51) := ⟨⟨by decide +kernel, by decide +kernel⟩, List.mem_of_getElem? (i := 1177) (by decide +kernel), List.mem_of_getElem? (i := 1588) (by decide +kernel), List.mem_of_getElem? (i := 1589) (by decide +kernel)⟩
theorem lw_p95 : lw_okq (⟨"WillowLawModel", "soaks", "(I)Z"⟩, 51) := ⟨⟨by decide +kernel, by decide +kernel⟩, List.mem_of_getElem? (i := 1177) (by decide +kernel), List.mem_of_getElem? (i := 1595) (by decide +kernel), List.mem_of_getElem? (i := 1596) (by decide +kernel)⟩
def lw_privs_6 : List (MethodName × Nat) := [(⟨"WillowLawModel", "holdsAt", "(IIIZ)I"⟩, 51), (⟨"WillowLawModel", "isWithin", "(II)Z"⟩, 51), (⟨"WillowLawModel", "weakest", "(IIZ)I"⟩, 51), (⟨"WillowLawModel", "hasYear", "(I)Z"⟩, 51), (⟨"WillowLawModel", "deeds", "()I"⟩, 51), (⟨"WillowLawModel", "deedOf", "(II)I"⟩, 51), (⟨"WillowLawModel", "layAll", "(II)Z"⟩, 51), (⟨"WillowLawModel", "play", "(I)I"⟩, 51), (⟨"WillowLawModel", "begin", "()V"⟩, 51), (⟨"WillowLawModel", "doesDeed", "(I)Z"⟩, 51), (⟨"WillowLawModel", "does", "(IIII)Z"⟩, 51), (⟨"WillowLawModel", "comes", "(III)Z"⟩, 51), (⟨"WillowLawModel", "tends", "(III)Z"⟩, 51), (⟨"WillowLawModel", "weaves", "(II)Z"⟩, 51), (⟨"WillowLawModel", "winters", "()Z"⟩, 51), (⟨"WillowLawModel", "soaks", "(I)Z"⟩, 51)]
theorem lw_r6 : ∀ q ∈ lw_privs_6, lw_okq q := List.forall_mem_cons.mpr ⟨lw_p80, List.forall_mem_cons.mpr ⟨lw_p81, List.forall_mem_cons.mpr ⟨lw_p82, List.forall_mem_cons.mpr ⟨lw_p83, List.forall_mem_cons.mpr ⟨lw_p84, List.forall_mem_cons.mpr ⟨lw_p85, List.forall_mem_cons.mpr ⟨lw_p86, List.forall_mem_cons.mpr ⟨lw_p87, List.forall_mem_cons.mpr ⟨lw_p88, List.forall_mem_cons.mpr ⟨lw_p89, List.forall_mem_cons.mpr ⟨lw_p90, List.forall_mem_cons.mpr ⟨lw_p91, List.forall_mem_cons.mpr ⟨lw_p92, List.forall_mem_cons.mpr ⟨lw_p93, List.forall_mem_cons.mpr ⟨lw_p94, List.forall_mem_cons.mpr ⟨lw_p95, fun _ h => absurd h List.not_mem_nil⟩⟩⟩⟩⟩⟩⟩⟩⟩⟩⟩⟩⟩⟩⟩⟩
theorem lw_p96 : lw_okq (⟨"WillowLawModel", "ofState", "(I)I"⟩, 51) := ⟨⟨by decide +kernel, by decide +kernel⟩, List.mem_of_getElem? (i := 1177) (by decide +kernel), List.mem_of_getElem? (i := 1603) (by decide +kernel), List.mem_of_getElem? (i := 1604) (by decide +kernel)⟩
theorem lw_p97 : lw_okq (⟨"WillowLawModel", "allStrength", "()I"⟩, 51) := ⟨⟨by decide +kernel, by decide +kernel⟩, List.mem_of_getElem? (i := 1177) (by decide +kernel), List.mem_of_getElem? (i := 1607) (by decide +kernel), List.mem_of_getElem? (i := 1608) (by decide +kernel)⟩
theorem lw_p98 : lw_okq (⟨"WillowLawModel", "findGaps", "(II)V"⟩, 51) := ⟨⟨by decide +kernel, by decide +kernel⟩, List.mem_of_getElem? (i := 1177) (by decide +kernel), List.mem_of_getElem? (i := 1619) (by decide +kernel), List.mem_of_getElem? (i := 1620) (by decide +kernel)⟩
theorem lw_p99 : lw_okq (⟨"WillowLawModel", "doClose", "(I)Z"⟩, 51) := ⟨⟨by decide +kernel, by decide +kernel⟩, List.mem_of_getElem? (i := 1177) (by decide +kernel), List.mem_of_getElem? (i := 1623) (by decide +kernel), List.mem_of_getElem? (i := 1624) (by decide +kernel)⟩
theorem lw_p100 : lw_okq (⟨"WillowLawModel", "areClosed", "(J)Z"⟩, 51) := ⟨⟨by decide +kernel, by decide +kernel⟩, List.mem_of_getElem? (i := 1177) (by decide +kernel), List.mem_of_getElem? (i := 1627) (by decide +kernel), List.mem_of_getElem? (i := 1628) (by decide +kernel)⟩
theorem lw_p101 : lw_okq (⟨"WillowLawModel", "isCell", "(I)Z"⟩, 51) := ⟨⟨by decide +kernel, by decide +kernel⟩, List.mem_of_getElem? (i := 1177) (by decide +kernel), List.mem_of_getElem? (i := 1639) (by decide +kernel), List.mem_of_getElem? (i := 1640) (by decide +kernel)⟩
theorem lw_p102 : lw_okq (⟨"WillowLawModel", "findSoon", "(I)V"⟩, 51) := ⟨⟨by decide +kernel, by decide +kernel⟩, List.mem_of_getElem? (i := 1177) (by decide +kernel), List.mem_of_getElem? (i := 1643) (by decide +kernel), List.mem_of_getElem? (i := 1644) (by decide +kernel)⟩
theorem lw_p103 : lw_okq (⟨"WillowLawModel", "costs", "(I)I"⟩, 51) := ⟨⟨by decide +kernel, by decide +kernel⟩, List.mem_of_getElem? (i := 1177) (by decide +kernel), List.mem_of_getElem? (i := 1647) (by decide +kernel), List.mem_of_getElem? (i := 1648) (by decide +kernel)⟩
theorem lw_p104 : lw_okq (⟨"WillowLawModel", "next", "(II)I"⟩, 51) := ⟨⟨by decide +kernel, by decide +kernel⟩, List.mem_of_getElem? (i := 1177) (by decide +kernel), List.mem_of_getElem? (i := 1652) (by decide +kernel), List.mem_of_getElem? (i := 1653) (by decide +kernel)⟩
theorem lw_p105 : lw_okq (⟨"WillowLawModel", "isEdge", "(I)Z"⟩, 51) := ⟨⟨by decide +kernel, by decide +kernel⟩, List.mem_of_getElem? (i := 1177) (by decide +kernel), List.mem_of_getElem? (i := 1656) (by decide +kernel), List.mem_of_getElem? (i := 1657) (by decide +kernel)⟩
theorem lw_p106 : lw_okq (⟨"WillowLawModel", "largestGap", "()I"⟩, 51) := ⟨⟨by decide +kernel, by decide +kernel⟩, List.mem_of_getElem? (i := 1177) (by decide +kernel), List.mem_of_getElem? (i := 1664) (by decide +kernel), List.mem_of_getElem? (i := 1665) (by decide +kernel)⟩
theorem lw_p107 : lw_okq (⟨"WillowLawModel", "findHoles", "()V"⟩, 51) := ⟨⟨by decide +kernel, by decide +kernel⟩, List.mem_of_getElem? (i := 1177) (by decide +kernel), List.mem_of_getElem? (i := 1668) (by decide +kernel), List.mem_of_getElem? (i := 1669) (by decide +kernel)⟩
theorem lw_p108 : lw_okq (⟨"WillowLawModel", "sizeOf", "(I)I"⟩, 51) := ⟨⟨by decide +kernel, by decide +kernel⟩, List.mem_of_getElem? (i := 1177) (by decide +kernel), List.mem_of_getElem? (i := 1672) (by decide +kernel), List.mem_of_getElem? (i := 1673) (by decide +kernel)⟩
theorem lw_p109 : lw_okq (⟨"WillowLawModel", "lastsBy", "(I)J"⟩, 51) := ⟨⟨by decide +kernel, by decide +kernel⟩, List.mem_of_getElem? (i := 1177) (by decide +kernel), List.mem_of_getElem? (i := 1681) (by decide +kernel), List.mem_of_getElem? (i := 1682) (by decide +kernel)⟩
theorem lw_p110 : lw_okq (⟨"WillowLawModel", "hasParish", "(I)Z"⟩, 51) := ⟨⟨by decide +kernel, by decide +kernel⟩, List.mem_of_getElem? (i := 1177) (by decide +kernel), List.mem_of_getElem? (i := 1700) (by decide +kernel), List.mem_of_getElem? (i := 1701) (by decide +kernel)⟩
theorem lw_p111 : lw_okq (⟨"WillowLawModel", "parishOf", "(I)I"⟩, 51) := ⟨⟨by decide +kernel, by decide +kernel⟩, List.mem_of_getElem? (i := 1177) (by decide +kernel), List.mem_of_getElem? (i := 1704) (by decide +kernel), List.mem_of_getElem? (i := 1705) (by decide +kernel)⟩
def lw_privs_7 : List (MethodName × Nat) := [(⟨"WillowLawModel", "ofState", "(I)I"⟩, 51), (⟨"WillowLawModel", "allStrength", "()I"⟩, 51), (⟨"WillowLawModel", "findGaps", "(II)V"⟩, 51), (⟨"WillowLawModel", "doClose", "(I)Z"⟩, 51), (⟨"WillowLawModel", "areClosed", "(J)Z"⟩, 51), (⟨"WillowLawModel", "isCell", "(I)Z"⟩, 51), (⟨"WillowLawModel", "findSoon", "(I)V"⟩, 51), (⟨"WillowLawModel", "costs", "(I)I"⟩, 51), (⟨"WillowLawModel", "next", "(II)I"⟩, 51), (⟨"WillowLawModel", "isEdge", "(I)Z"⟩, 51), (⟨"WillowLawModel", "largestGap", "()I"⟩, 51), (⟨"WillowLawModel", "findHoles", "()V"⟩, 51), (⟨"WillowLawModel", "sizeOf", "(I)I"⟩, 51), (⟨"WillowLawModel", "lastsBy", "(I)J"⟩, 51), (⟨"WillowLawModel", "hasParish", "(I)Z"⟩, 51), (⟨"WillowLawModel", "parishOf", "(I)I"⟩, 51)]
theorem lw_r7 : ∀ q ∈ lw_privs_7, lw_okq q := List.forall_mem_cons.mpr ⟨lw_p96, List.forall_mem_cons.mpr ⟨lw_p97, List.forall_mem_cons.mpr ⟨lw_p98, List.forall_mem_cons.mpr ⟨lw_p99, List.forall_mem_cons.mpr ⟨lw_p100, List.forall_mem_cons.mpr ⟨lw_p101, List.forall_mem_cons.mpr ⟨lw_p102, List.forall_mem_cons.mpr ⟨lw_p103, List.forall_mem_cons.mpr ⟨lw_p104, List.forall_mem_cons.mpr ⟨lw_p105, List.forall_mem_cons.mpr ⟨lw_p106, List.forall_mem_cons.mpr ⟨lw_p107, List.forall_mem_cons.mpr ⟨lw_p108, List.forall_mem_cons.mpr ⟨lw_p109, List.forall_mem_cons.mpr ⟨lw_p110, List.forall_mem_cons.mpr ⟨lw_p111, fun _ h => absurd h List.not_mem_nil⟩⟩⟩⟩⟩⟩⟩⟩⟩⟩⟩⟩⟩⟩⟩⟩
theorem lw_p112 : lw_okq (⟨"WillowLawModel", "rod", "(I)I"⟩, 51) := ⟨⟨by decide +kernel, by decide +kernel⟩, List.mem_of_getElem? (i := 1177) (by decide +kernel), List.mem_of_getElem? (i := 1708) (by decide +kernel), List.mem_of_getElem? (i := 1709) (by decide +kernel)⟩
theorem lw_p113 : lw_okq (⟨"WillowLawModel", "longest", "()I"⟩, 51) := ⟨⟨by decide +kernel, by decide +kernel⟩, List.mem_of_getElem? (i := 1177) (by decide +kernel), List.mem_of_getElem? (i := 1716) (by decide +kernel), List.mem_of_getElem? (i := 1717) (by decide +kernel)⟩
theorem lw_p114 : lw_okq (⟨"WillowLawModel", "costAll", "(Z)I"⟩, 51) := ⟨⟨by decide +kernel, by decide +kernel⟩, List.mem_of_getElem? (i := 1177) (by decide +kernel), List.mem_of_getElem? (i := 1720) (by decide +kernel), List.mem_of_getElem? (i := 1721) (by decide +kernel)⟩
theorem lw_p115 : lw_okq (⟨"WillowLawModel", "findCosts", "(Z)V"⟩, 51) := ⟨⟨by decide +kernel, by decide +kernel⟩, List.mem_of_getElem? (i := 1177) (by decide +kernel), List.mem_of_getElem? (i := 1724) (by decide +kernel), List.mem_of_getElem? (i := 1725) (by decide +kernel)⟩
theorem lw_p116 : lw_okq (⟨"WillowLawModel", "sumOf", "(I)I"⟩, 51) := ⟨⟨by decide +kernel, by decide +kernel⟩, List.mem_of_getElem? (i := 1177) (by decide +kernel), List.mem_of_getElem? (i := 1728) (by decide +kernel), List.mem_of_getElem? (i := 1729) (by decide +kernel)⟩
theorem lw_p117 : lw_okq (⟨"WillowLawModel", "cutFrom", "(I)I"⟩, 51) := ⟨⟨by decide +kernel, by decide +kernel⟩, List.mem_of_getElem? (i := 1177) (by decide +kernel), List.mem_of_getElem? (i := 1732) (by decide +kernel), List.mem_of_getElem? (i := 1733) (by decide +kernel)⟩
theorem lw_p118 : lw_okq (⟨"WillowLawModel", "isWon", "(Z)Z"⟩, 51) := ⟨⟨by decide +kernel, by decide +kernel⟩, List.mem_of_getElem? (i := 1177) (by decide +kernel), List.mem_of_getElem? (i := 1740) (by decide +kernel), List.mem_of_getElem? (i := 1741) (by decide +kernel)⟩
theorem lw_p119 : lw_okq (⟨"WillowLawModel", "hasClues", "(I)Z"⟩, 51) := ⟨⟨by decide +kernel, by decide +kernel⟩, List.mem_of_getElem? (i := 1177) (by decide +kernel), List.mem_of_getElem? (i := 1748) (by decide +kernel), List.mem_of_getElem? (i := 1749) (by decide +kernel)⟩
theorem lw_p120 : lw_okq (⟨"WillowLawModel", "hintOf", "(I)I"⟩, 51) := ⟨⟨by decide +kernel, by decide +kernel⟩, List.mem_of_getElem? (i := 1177) (by decide +kernel), List.mem_of_getElem? (i := 1752) (by decide +kernel), List.mem_of_getElem? (i := 1753) (by decide +kernel)⟩
theorem lw_p121 : lw_okq (⟨"WillowLawModel", "findFitting", "()V"⟩, 51) := ⟨⟨by decide +kernel, by decide +kernel⟩, List.mem_of_getElem? (i := 1177) (by decide +kernel), List.mem_of_getElem? (i := 1760) (by decide +kernel), List.mem_of_getElem? (i := 1761) (by decide +kernel)⟩
theorem lw_p122 : lw_okq (⟨"WillowLawModel", "isSo", "(I)Z"⟩, 51) := ⟨⟨by decide +kernel, by decide +kernel⟩, List.mem_of_getElem? (i := 1177) (by decide +kernel), List.mem_of_getElem? (i := 1770) (by decide +kernel), List.mem_of_getElem? (i := 1771) (by decide +kernel)⟩
theorem lw_p123 : lw_okq (⟨"WillowLawModel", "isInGap", "(III)Z"⟩, 51) := ⟨⟨by decide +kernel, by decide +kernel⟩, List.mem_of_getElem? (i := 1177) (by decide +kernel), List.mem_of_getElem? (i := 1774) (by decide +kernel), List.mem_of_getElem? (i := 1775) (by decide +kernel)⟩
theorem lw_p124 : lw_okq (⟨"WillowLawModel", "openIn", "(I)I"⟩, 51) := ⟨⟨by decide +kernel, by decide +kernel⟩, List.mem_of_getElem? (i := 1177) (by decide +kernel), List.mem_of_getElem? (i := 1778) (by decide +kernel), List.mem_of_getElem? (i := 1779) (by decide +kernel)⟩
theorem lw_p125 : lw_okq (⟨"WillowLawModel", "askOf", "()I"⟩, 51) := ⟨⟨by decide +kernel, by decide +kernel⟩, List.mem_of_getElem? (i := 1177) (by decide +kernel), List.mem_of_getElem? (i := 1782) (by decide +kernel), List.mem_of_getElem? (i := 1783) (by decide +kernel)⟩
theorem lw_p126 : lw_okq (⟨"WillowLawModel", "drawDeed", "()V"⟩, 51) := ⟨⟨by decide +kernel, by decide +kernel⟩, List.mem_of_getElem? (i := 1177) (by decide +kernel), List.mem_of_getElem? (i := 1790) (by decide +kernel), List.mem_of_getElem? (i := 1791) (by decide +kernel)⟩
theorem lw_p127 : lw_okq (⟨"WillowLawModel", "draw", "(I)I"⟩, 51) := ⟨⟨by decide +kernel, by decide +kernel⟩, List.mem_of_getElem? (i := 1177) (by decide +kernel), List.mem_of_getElem? (i := 1794) (by decide +kernel), List.mem_of_getElem? (i := 1795) (by decide +kernel)⟩
def lw_privs_8 : List (MethodName × Nat) := [(⟨"WillowLawModel", "rod", "(I)I"⟩, 51), (⟨"WillowLawModel", "longest", "()I"⟩, 51), (⟨"WillowLawModel", "costAll", "(Z)I"⟩, 51), (⟨"WillowLawModel", "findCosts", "(Z)V"⟩, 51), (⟨"WillowLawModel", "sumOf", "(I)I"⟩, 51), (⟨"WillowLawModel", "cutFrom", "(I)I"⟩, 51), (⟨"WillowLawModel", "isWon", "(Z)Z"⟩, 51), (⟨"WillowLawModel", "hasClues", "(I)Z"⟩, 51), (⟨"WillowLawModel", "hintOf", "(I)I"⟩, 51), (⟨"WillowLawModel", "findFitting", "()V"⟩, 51), (⟨"WillowLawModel", "isSo", "(I)Z"⟩, 51), (⟨"WillowLawModel", "isInGap", "(III)Z"⟩, 51), (⟨"WillowLawModel", "openIn", "(I)I"⟩, 51), (⟨"WillowLawModel", "askOf", "()I"⟩, 51), (⟨"WillowLawModel", "drawDeed", "()V"⟩, 51), (⟨"WillowLawModel", "draw", "(I)I"⟩, 51)]
theorem lw_r8 : ∀ q ∈ lw_privs_8, lw_okq q := List.forall_mem_cons.mpr ⟨lw_p112, List.forall_mem_cons.mpr ⟨lw_p113, List.forall_mem_cons.mpr ⟨lw_p114, List.forall_mem_cons.mpr ⟨lw_p115, List.forall_mem_cons.mpr ⟨lw_p116, List.forall_mem_cons.mpr ⟨lw_p117, List.forall_mem_cons.mpr ⟨lw_p118, List.forall_mem_cons.mpr ⟨lw_p119, List.forall_mem_cons.mpr ⟨lw_p120, List.forall_mem_cons.mpr ⟨lw_p121, List.forall_mem_cons.mpr ⟨lw_p122, List.forall_mem_cons.mpr ⟨lw_p123, List.forall_mem_cons.mpr ⟨lw_p124, List.forall_mem_cons.mpr ⟨lw_p125, List.forall_mem_cons.mpr ⟨lw_p126, List.forall_mem_cons.mpr ⟨lw_p127, fun _ h => absurd h List.not_mem_nil⟩⟩⟩⟩⟩⟩⟩⟩⟩⟩⟩⟩⟩⟩⟩⟩
theorem lw_p128 : lw_okq (⟨"WillowLawModel", "holdOf", "(II)I"⟩, 51) := ⟨⟨by decide +kernel, by decide +kernel⟩, List.mem_of_getElem? (i := 1177) (by decide +kernel), List.mem_of_getElem? (i := 1807) (by decide +kernel), List.mem_of_getElem? (i := 1808) (by decide +kernel)⟩
theorem lw_p129 : lw_okq (⟨"WillowLawModel", "columnMany", "(I)I"⟩, 51) := ⟨⟨by decide +kernel, by decide +kernel⟩, List.mem_of_getElem? (i := 1177) (by decide +kernel), List.mem_of_getElem? (i := 1823) (by decide +kernel), List.mem_of_getElem? (i := 1824) (by decide +kernel)⟩
theorem lw_p130 : lw_okq (⟨"WillowLawModel", "mirrors", "()I"⟩, 51) := ⟨⟨by decide +kernel, by decide +kernel⟩, List.mem_of_getElem? (i := 1177) (by decide +kernel), List.mem_of_getElem? (i := 1827) (by decide +kernel), List.mem_of_getElem? (i := 1828) (by decide +kernel)⟩
theorem lw_p131 : lw_okq (⟨"WillowLawModel", "mostHad", "(II)I"⟩, 51) := ⟨⟨by decide +kernel, by decide +kernel⟩, List.mem_of_getElem? (i := 1177) (by decide +kernel), List.mem_of_getElem? (i := 1835) (by decide +kernel), List.mem_of_getElem? (i := 1836) (by decide +kernel)⟩
theorem lw_p132 : lw_okq (⟨"WillowLawModel", "copyAll", "(II)V"⟩, 51) := ⟨⟨by decide +kernel, by decide +kernel⟩, List.mem_of_getElem? (i := 1177) (by decide +kernel), List.mem_of_getElem? (i := 1854) (by decide +kernel), List.mem_of_getElem? (i := 1855) (by decide +kernel)⟩
def lw_privs_9 : List (MethodName × Nat) := [(⟨"WillowLawModel", "holdOf", "(II)I"⟩, 51), (⟨"WillowLawModel", "columnMany", "(I)I"⟩, 51), (⟨"WillowLawModel", "mirrors", "()I"⟩, 51), (⟨"WillowLawModel", "mostHad", "(II)I"⟩, 51), (⟨"WillowLawModel", "copyAll", "(II)V"⟩, 51)]
theorem lw_r9 : ∀ q ∈ lw_privs_9, lw_okq q := List.forall_mem_cons.mpr ⟨lw_p128, List.forall_mem_cons.mpr ⟨lw_p129, List.forall_mem_cons.mpr ⟨lw_p130, List.forall_mem_cons.mpr ⟨lw_p131, List.forall_mem_cons.mpr ⟨lw_p132, fun _ h => absurd h List.not_mem_nil⟩⟩⟩⟩⟩
def lw_privs : List (MethodName × Nat) := lw_privs_1 ++ (lw_privs_2 ++ (lw_privs_3 ++ (lw_privs_4 ++ (lw_privs_5 ++ (lw_privs_6 ++ (lw_privs_7 ++ (lw_privs_8 ++ (lw_privs_9))))))))
def lw_tbl : List Cond := k2_sels lw_privs ++ tables_1
theorem lw_privs_ok : ∀ q ∈ lw_privs, lw_okq q := by
  show ∀ q ∈ lw_privs_1 ++ (lw_privs_2 ++ (lw_privs_3 ++ (lw_privs_4 ++ (lw_privs_5 ++ (lw_privs_6 ++ (lw_privs_7 ++ (lw_privs_8 ++ (lw_privs_9)))))))), lw_okq q
  exact List.forall_mem_append.mpr ⟨lw_r1, List.forall_mem_append.mpr ⟨lw_r2, List.forall_mem_append.mpr ⟨lw_r3, List.forall_mem_append.mpr ⟨lw_r4, List.forall_mem_append.mpr ⟨lw_r5, List.forall_mem_append.mpr ⟨lw_r6, List.forall_mem_append.mpr ⟨lw_r7, List.forall_mem_append.mpr ⟨lw_r8, lw_r9⟩⟩⟩⟩⟩⟩⟩⟩
-- ===== end of PART A; then your names; then what follows =====
/-! ===== BEGIN words of one list among another's, by their places ===== -/
theorem goodIn_r {big : List Cond} (ws : List Cond) (ps : List Nat) (hp : ws = ps.filterMap (fun i => big[i]?)) (h : ws.all goodWord = true) : GoodIn big ws := by
  intro w hw
  have h1 := List.all_eq_true.mp h w hw
  rw [hp] at hw
  obtain ⟨i, -, hi⟩ := List.mem_filterMap.mp hw
  have hm : w ∈ big := by first | exact List.mem_of_getElem? hi | exact List.getElem?_mem hi
  exact ⟨hm, good_of_word h1⟩
theorem goodIn_app {big a b : List Cond} (ha : GoodIn big a) (hb : GoodIn big b) : GoodIn big (a ++ b) := fun w h => (List.mem_append.mp h).elim (ha w) (hb w)
theorem goodIn_ca {big a b : List Cond} {c : Cond} (ha : GoodIn big (c :: a)) (hb : GoodIn big b) : GoodIn big (c :: (a ++ b)) := fun w h => (List.mem_cons.mp h).elim (fun e => ha w (List.mem_cons.mpr (Or.inl e))) (fun h => (List.mem_append.mp h).elim (fun h => ha w (List.mem_cons.mpr (Or.inr h))) (hb w))
theorem goodIn_sub {big ws : List Cond} (hm : ∀ w ∈ ws, w ∈ big) (h : ws.all goodWord = true) : GoodIn big ws := fun w hw => ⟨hm w hw, good_of_word (List.all_eq_true.mp h w hw)⟩
/-! ===== END ===== -/

/-! ===== BEGIN printed: names, fields, word lists, decode rows ===== -/
def RX0 : String := "WillowLaw$Basket"
def TX0 : u_T := fun k => match k with
  | 0 => ("WillowLaw$Basket", "thick", "[I", true)
  | 1 => ("WillowLaw$Basket", "wear", "[I", true)
  | 2 => ("WillowLaw$Basket", "sums", "[I", true)
  | 3 => ("WillowLaw$Basket", "wide", "I", false)
  | 4 => ("WillowLaw$Basket", "high", "I", false)
  | 5 => ("WillowLaw$Basket", "wet", "Z", false)
  | _ => ("WillowLaw$Basket", "open", "J", false)
def tyX0 : Nat → FieldType := fun k => match k with
  | 0 => .array .int
  | 1 => .array .int
  | 2 => .array .int
  | 3 => .int
  | 4 => .int
  | 5 => .boolean
  | _ => .long
abbrev wsX00 : List Cond := u_ws RX0 TX0 7
theorem nmX0 : ∀ a, a < 7 → ∀ b, b < 7 → a ≠ b → (TX0 a).2.1 ≠ (TX0 b).2.1 := by decide +kernel
theorem tyX0_ok : ∀ k, k < 7 → parseFieldDescriptor (TX0 k).2.2.1 = some (tyX0 k) := by decide +kernel
abbrev cX0_init : ByteArray := prog_2_method_1_code
def yX0_init : MethodName := ⟨RX0, "<init>", "()V"⟩
abbrev cX0_begin : ByteArray := prog_2_method_2_code
def yX0_begin : MethodName := ⟨RX0, "begin", "()V"⟩
abbrev cX0_take : ByteArray := prog_2_method_3_code
def yX0_take : MethodName := ⟨RX0, "take", "(LWillowLaw$Basket;)V"⟩
abbrev cX0_bit : ByteArray := prog_2_method_4_code
def yX0_bit : MethodName := ⟨RX0, "bit", "(II)J"⟩
abbrev cX0_block : ByteArray := prog_2_method_5_code
def yX0_block : MethodName := ⟨RX0, "block", "(IIII)J"⟩
abbrev cX0_rowOf : ByteArray := prog_2_method_6_code
def yX0_rowOf : MethodName := ⟨RX0, "rowOf", "(I)I"⟩
abbrev cX0_columnOf : ByteArray := prog_2_method_7_code
def yX0_columnOf : MethodName := ⟨RX0, "columnOf", "(I)I"⟩
abbrev cX0_strokeOf : ByteArray := prog_2_method_8_code
def yX0_strokeOf : MethodName := ⟨RX0, "strokeOf", "(I)I"⟩
abbrev cX0_hasStroke : ByteArray := prog_2_method_9_code
def yX0_hasStroke : MethodName := ⟨RX0, "hasStroke", "(I)Z"⟩
abbrev cX0_hasTwig : ByteArray := prog_2_method_10_code
def yX0_hasTwig : MethodName := ⟨RX0, "hasTwig", "(II)Z"⟩
abbrev cX0_setTwig : ByteArray := prog_2_method_11_code
def yX0_setTwig : MethodName := ⟨RX0, "setTwig", "(IIII)V"⟩
abbrev cX0_isOpen : ByteArray := prog_2_method_12_code
def yX0_isOpen : MethodName := ⟨RX0, "isOpen", "(II)Z"⟩
abbrev cX0_strengthIn : ByteArray := prog_2_method_13_code
def yX0_strengthIn : MethodName := ⟨RX0, "strengthIn", "(II)I"⟩
abbrev cX0_strengthOf : ByteArray := prog_2_method_14_code
def yX0_strengthOf : MethodName := ⟨RX0, "strengthOf", "(I)I"⟩
abbrev cX0_strengthOfAll : ByteArray := prog_2_method_15_code
def yX0_strengthOfAll : MethodName := ⟨RX0, "strengthOfAll", "()I"⟩
abbrev cX0_strengthOfRectangle : ByteArray := prog_2_method_16_code
def yX0_strengthOfRectangle : MethodName := ⟨RX0, "strengthOfRectangle", "(III)I"⟩
abbrev cX0_part : ByteArray := prog_2_method_17_code
def yX0_part : MethodName := ⟨RX0, "part", "(I)I"⟩
abbrev cX0_gapFor : ByteArray := prog_2_method_18_code
def yX0_gapFor : MethodName := ⟨RX0, "gapFor", "(II)I"⟩
abbrev cX0_gapWithout : ByteArray := prog_2_method_19_code
def yX0_gapWithout : MethodName := ⟨RX0, "gapWithout", "(III)I"⟩
abbrev cX0_gapIn : ByteArray := prog_2_method_20_code
def yX0_gapIn : MethodName := ⟨RX0, "gapIn", "(JII)I"⟩
abbrev cX0_softest : ByteArray := prog_2_method_21_code
def yX0_softest : MethodName := ⟨RX0, "softest", "(II)I"⟩
abbrev cX0_sumUp : ByteArray := prog_2_method_22_code
def yX0_sumUp : MethodName := ⟨RX0, "sumUp", "()V"⟩
abbrev cX0_sumTo : ByteArray := prog_2_method_23_code
def yX0_sumTo : MethodName := ⟨RX0, "sumTo", "(II)I"⟩
abbrev cX0_holdOf : ByteArray := prog_2_method_24_code
def yX0_holdOf : MethodName := ⟨RX0, "holdOf", "(II)I"⟩
abbrev cX0_holdIfThicker : ByteArray := prog_2_method_25_code
def yX0_holdIfThicker : MethodName := ⟨RX0, "holdIfThicker", "(III)I"⟩
abbrev cX0_openRectangle : ByteArray := prog_2_method_26_code
def yX0_openRectangle : MethodName := ⟨RX0, "openRectangle", "(III)V"⟩
abbrev cX0_likeliest : ByteArray := prog_2_method_27_code
def yX0_likeliest : MethodName := ⟨RX0, "likeliest", "(II)I"⟩
abbrev cX0_shutIn : ByteArray := prog_2_method_28_code
def yX0_shutIn : MethodName := ⟨RX0, "shutIn", "(III)I"⟩
abbrev cX0_holesOrLargest : ByteArray := prog_2_method_29_code
def yX0_holesOrLargest : MethodName := ⟨RX0, "holesOrLargest", "(Z)I"⟩
abbrev cX0_joinedTo : ByteArray := prog_2_method_30_code
def yX0_joinedTo : MethodName := ⟨RX0, "joinedTo", "(J)J"⟩
abbrev cX0_largestGap : ByteArray := prog_2_method_31_code
def yX0_largestGap : MethodName := ⟨RX0, "largestGap", "()I"⟩
abbrev cX0_mendedFirst : ByteArray := prog_2_method_32_code
def yX0_mendedFirst : MethodName := ⟨RX0, "mendedFirst", "(I)I"⟩
abbrev cX0_soundWays : ByteArray := prog_2_method_33_code
def yX0_soundWays : MethodName := ⟨RX0, "soundWays", "(I)J"⟩
abbrev cX0_allWays : ByteArray := prog_2_method_34_code
def yX0_allWays : MethodName := ⟨RX0, "allWays", "()J"⟩
abbrev cX0_mirrors : ByteArray := prog_2_method_35_code
def yX0_mirrors : MethodName := ⟨RX0, "mirrors", "()I"⟩
abbrev cX0_crowdedRow : ByteArray := prog_2_method_36_code
def yX0_crowdedRow : MethodName := ⟨RX0, "crowdedRow", "()I"⟩
abbrev cX0_crowdedColumn : ByteArray := prog_2_method_37_code
def yX0_crowdedColumn : MethodName := ⟨RX0, "crowdedColumn", "()I"⟩
abbrev cX0_openIn : ByteArray := prog_2_method_38_code
def yX0_openIn : MethodName := ⟨RX0, "openIn", "(J)I"⟩
def RX1 : String := "WillowLaw$Clues"
def TX1 : u_T := fun k => match k with
  | 0 => ("WillowLaw$Clues", "row", "[I", true)
  | 1 => ("WillowLaw$Clues", "wide", "I", false)
  | 2 => ("WillowLaw$Clues", "high", "I", false)
  | _ => ("WillowLaw$Clues", "many", "I", false)
def tyX1 : Nat → FieldType := fun k => match k with
  | 0 => .array .int
  | 1 => .int
  | 2 => .int
  | _ => .int
abbrev wsX10 : List Cond := u_ws RX1 TX1 4
theorem nmX1 : ∀ a, a < 4 → ∀ b, b < 4 → a ≠ b → (TX1 a).2.1 ≠ (TX1 b).2.1 := by decide +kernel
theorem tyX1_ok : ∀ k, k < 4 → parseFieldDescriptor (TX1 k).2.2.1 = some (tyX1 k) := by decide +kernel
abbrev cX1_init : ByteArray := prog_3_method_1_code
def yX1_init : MethodName := ⟨RX1, "<init>", "()V"⟩
abbrev cX1_begin : ByteArray := prog_3_method_2_code
def yX1_begin : MethodName := ⟨RX1, "begin", "()V"⟩
abbrev cX1_take : ByteArray := prog_3_method_3_code
def yX1_take : MethodName := ⟨RX1, "take", "(LWillowLaw$Clues;)V"⟩
abbrev cX1_add : ByteArray := prog_3_method_4_code
def yX1_add : MethodName := ⟨RX1, "add", "(III)V"⟩
abbrev cX1_part : ByteArray := prog_3_method_5_code
def yX1_part : MethodName := ⟨RX1, "part", "(I)I"⟩
abbrev cX1_agrees : ByteArray := prog_3_method_6_code
def yX1_agrees : MethodName := ⟨RX1, "agrees", "(IZZ)Z"⟩
abbrev cX1_allow : ByteArray := prog_3_method_7_code
def yX1_allow : MethodName := ⟨RX1, "allow", "(IIII)Z"⟩
def RX2 : String := "WillowLaw$Parish"
def TX2 : u_T := fun k => match k with
  | 0 => ("WillowLaw$Parish", "rod", "[I", true)
  | 1 => ("WillowLaw$Parish", "piece", "[I", true)
  | 2 => ("WillowLaw$Parish", "rods", "I", false)
  | 3 => ("WillowLaw$Parish", "pieces", "I", false)
  | _ => ("WillowLaw$Parish", "cut", "I", false)
def tyX2 : Nat → FieldType := fun k => match k with
  | 0 => .array .int
  | 1 => .array .int
  | 2 => .int
  | 3 => .int
  | _ => .int
abbrev wsX20 : List Cond := u_ws RX2 TX2 5
theorem nmX2 : ∀ a, a < 5 → ∀ b, b < 5 → a ≠ b → (TX2 a).2.1 ≠ (TX2 b).2.1 := by decide +kernel
theorem tyX2_ok : ∀ k, k < 5 → parseFieldDescriptor (TX2 k).2.2.1 = some (tyX2 k) := by decide +kernel
abbrev cX2_init : ByteArray := prog_4_method_1_code
def yX2_init : MethodName := ⟨RX2, "<init>", "()V"⟩
abbrev cX2_begin : ByteArray := prog_4_method_2_code
def yX2_begin : MethodName := ⟨RX2, "begin", "()V"⟩
abbrev cX2_take : ByteArray := prog_4_method_3_code
def yX2_take : MethodName := ⟨RX2, "take", "(LWillowLaw$Parish;)V"⟩
abbrev cX2_addRod : ByteArray := prog_4_method_4_code
def yX2_addRod : MethodName := ⟨RX2, "addRod", "(I)V"⟩
abbrev cX2_addPiece : ByteArray := prog_4_method_5_code
def yX2_addPiece : MethodName := ⟨RX2, "addPiece", "(I)V"⟩
abbrev cX2_part : ByteArray := prog_4_method_6_code
def yX2_part : MethodName := ⟨RX2, "part", "(I)I"⟩
abbrev cX2_wins : ByteArray := prog_4_method_7_code
def yX2_wins : MethodName := ⟨RX2, "wins", "(IIZ)Z"⟩
abbrev cX2_winningCut : ByteArray := prog_4_method_8_code
def yX2_winningCut : MethodName := ⟨RX2, "winningCut", "(Z)I"⟩
def RX3 : String := "WillowLaw$Reader"
def TX3 : u_T := fun k => match k with
  | 0 => ("WillowLaw$Reader", "tokens", "LWillowLaw$Tokens;", true)
  | 1 => ("WillowLaw$Reader", "basket", "LWillowLaw$Basket;", true)
  | 2 => ("WillowLaw$Reader", "year", "LWillowLaw$Year;", true)
  | 3 => ("WillowLaw$Reader", "parish", "LWillowLaw$Parish;", true)
  | 4 => ("WillowLaw$Reader", "clues", "LWillowLaw$Clues;", true)
  | 5 => ("WillowLaw$Reader", "flaw", "I", false)
  | 6 => ("WillowLaw$Reader", "place", "I", false)
  | 7 => ("WillowLaw$Reader", "farColumn", "I", false)
  | _ => ("WillowLaw$Reader", "farRow", "I", false)
def tyX3 : Nat → FieldType := fun k => match k with
  | 0 => .object "WillowLaw$Tokens"
  | 1 => .object "WillowLaw$Basket"
  | 2 => .object "WillowLaw$Year"
  | 3 => .object "WillowLaw$Parish"
  | 4 => .object "WillowLaw$Clues"
  | 5 => .int
  | 6 => .int
  | 7 => .int
  | _ => .int
abbrev wsX30 : List Cond := u_ws RX3 TX3 9
theorem nmX3 : ∀ a, a < 9 → ∀ b, b < 9 → a ≠ b → (TX3 a).2.1 ≠ (TX3 b).2.1 := by decide +kernel
theorem tyX3_ok : ∀ k, k < 9 → parseFieldDescriptor (TX3 k).2.2.1 = some (tyX3 k) := by decide +kernel
abbrev cX3_init : ByteArray := prog_5_method_1_code
def yX3_init : MethodName := ⟨RX3, "<init>", "([B)V"⟩
abbrev cX3_read : ByteArray := prog_5_method_2_code
def yX3_read : MethodName := ⟨RX3, "read", "(II)V"⟩
abbrev cX3_readBasketLine : ByteArray := prog_5_method_3_code
def yX3_readBasketLine : MethodName := ⟨RX3, "readBasketLine", "()V"⟩
abbrev cX3_readTwig : ByteArray := prog_5_method_4_code
def yX3_readTwig : MethodName := ⟨RX3, "readTwig", "(II)V"⟩
abbrev cX3_readYearLine : ByteArray := prog_5_method_5_code
def yX3_readYearLine : MethodName := ⟨RX3, "readYearLine", "()V"⟩
abbrev cX3_readCare : ByteArray := prog_5_method_6_code
def yX3_readCare : MethodName := ⟨RX3, "readCare", "(I)V"⟩
abbrev cX3_readParishLine : ByteArray := prog_5_method_7_code
def yX3_readParishLine : MethodName := ⟨RX3, "readParishLine", "()V"⟩
abbrev cX3_readCluesLine : ByteArray := prog_5_method_8_code
def yX3_readCluesLine : MethodName := ⟨RX3, "readCluesLine", "()V"⟩
abbrev cX3_readClueWord : ByteArray := prog_5_method_9_code
def yX3_readClueWord : MethodName := ⟨RX3, "readClueWord", "()I"⟩
abbrev cX3_readColumn : ByteArray := prog_5_method_10_code
def yX3_readColumn : MethodName := ⟨RX3, "readColumn", "()I"⟩
abbrev cX3_readRow : ByteArray := prog_5_method_11_code
def yX3_readRow : MethodName := ⟨RX3, "readRow", "()I"⟩
abbrev cX3_goesOn : ByteArray := prog_5_method_12_code
def yX3_goesOn : MethodName := ⟨RX3, "goesOn", "()Z"⟩
abbrev cX3_readWord : ByteArray := prog_5_method_13_code
def yX3_readWord : MethodName := ⟨RX3, "readWord", "(Ljava/lang/String;)Z"⟩
abbrev cX3_readNumber : ByteArray := prog_5_method_14_code
def yX3_readNumber : MethodName := ⟨RX3, "readNumber", "(II)I"⟩
abbrev cX3_readStop : ByteArray := prog_5_method_15_code
def yX3_readStop : MethodName := ⟨RX3, "readStop", "()V"⟩
abbrev cX3_refuse : ByteArray := prog_5_method_16_code
def yX3_refuse : MethodName := ⟨RX3, "refuse", "()V"⟩
abbrev cX3_note : ByteArray := prog_5_method_17_code
def yX3_note : MethodName := ⟨RX3, "note", "(II)V"⟩
abbrev cX3_lookForAll : ByteArray := prog_5_method_18_code
def yX3_lookForAll : MethodName := ⟨RX3, "lookForAll", "(II)V"⟩
def RX4 : String := "WillowLaw$Saw"
def TX4 : u_T := fun k => match k with
  | 0 => ("WillowLaw$Saw", "left", "[I", true)
  | 1 => ("WillowLaw$Saw", "price", "[I", true)
  | 2 => ("WillowLaw$Saw", "weight", "[I", true)
  | 3 => ("WillowLaw$Saw", "least", "[I", true)
  | 4 => ("WillowLaw$Saw", "heir", "[I", true)
  | 5 => ("WillowLaw$Saw", "share", "[I", true)
  | _ => ("WillowLaw$Saw", "most", "I", false)
def tyX4 : Nat → FieldType := fun k => match k with
  | 0 => .array .int
  | 1 => .array .int
  | 2 => .array .int
  | 3 => .array .int
  | 4 => .array .int
  | 5 => .array .int
  | _ => .int
abbrev wsX40 : List Cond := u_ws RX4 TX4 7
theorem nmX4 : ∀ a, a < 7 → ∀ b, b < 7 → a ≠ b → (TX4 a).2.1 ≠ (TX4 b).2.1 := by decide +kernel
theorem tyX4_ok : ∀ k, k < 7 → parseFieldDescriptor (TX4 k).2.2.1 = some (tyX4 k) := by decide +kernel
abbrev cX4_init : ByteArray := prog_6_method_1_code
def yX4_init : MethodName := ⟨RX4, "<init>", "()V"⟩
abbrev cX4_wholeRods : ByteArray := prog_6_method_2_code
def yX4_wholeRods : MethodName := ⟨RX4, "wholeRods", "(LWillowLaw$Parish;Z)V"⟩
abbrev cX4_fewest : ByteArray := prog_6_method_3_code
def yX4_fewest : MethodName := ⟨RX4, "fewest", "(LWillowLaw$Parish;)I"⟩
abbrev cX4_spare : ByteArray := prog_6_method_4_code
def yX4_spare : MethodName := ⟨RX4, "spare", "(LWillowLaw$Parish;)I"⟩
abbrev cX4_longest : ByteArray := prog_6_method_5_code
def yX4_longest : MethodName := ⟨RX4, "longest", "(LWillowLaw$Parish;)I"⟩
abbrev cX4_rodOf : ByteArray := prog_6_method_6_code
def yX4_rodOf : MethodName := ⟨RX4, "rodOf", "(LWillowLaw$Parish;I)I"⟩
abbrev cX4_firstRodFor : ByteArray := prog_6_method_7_code
def yX4_firstRodFor : MethodName := ⟨RX4, "firstRodFor", "(LWillowLaw$Parish;II)I"⟩
abbrev cX4_cutOff : ByteArray := prog_6_method_8_code
def yX4_cutOff : MethodName := ⟨RX4, "cutOff", "(III)V"⟩
abbrev cX4_allFrom : ByteArray := prog_6_method_9_code
def yX4_allFrom : MethodName := ⟨RX4, "allFrom", "(LWillowLaw$Parish;I)I"⟩
abbrev cX4_pack : ByteArray := prog_6_method_10_code
def yX4_pack : MethodName := ⟨RX4, "pack", "(LWillowLaw$Parish;I)I"⟩
abbrev cX4_packInto : ByteArray := prog_6_method_11_code
def yX4_packInto : MethodName := ⟨RX4, "packInto", "(II)V"⟩
abbrev cX4_divide : ByteArray := prog_6_method_12_code
def yX4_divide : MethodName := ⟨RX4, "divide", "(LWillowLaw$Parish;I)V"⟩
abbrev cX4_mostOf : ByteArray := prog_6_method_13_code
def yX4_mostOf : MethodName := ⟨RX4, "mostOf", "(LWillowLaw$Parish;II)I"⟩
def RX5 : String := "WillowLaw$Search"
def TX5 : u_T := fun k => match k with
  | 0 => ("WillowLaw$Search", "openIn", "[I", true)
  | 1 => ("WillowLaw$Search", "fit", "I", false)
  | 2 => ("WillowLaw$Search", "wanted", "I", false)
  | 3 => ("WillowLaw$Search", "found", "I", false)
  | _ => ("WillowLaw$Search", "tallies", "Z", false)
def tyX5 : Nat → FieldType := fun k => match k with
  | 0 => .array .int
  | 1 => .int
  | 2 => .int
  | 3 => .int
  | _ => .boolean
abbrev wsX50 : List Cond := u_ws RX5 TX5 5
theorem nmX5 : ∀ a, a < 5 → ∀ b, b < 5 → a ≠ b → (TX5 a).2.1 ≠ (TX5 b).2.1 := by decide +kernel
theorem tyX5_ok : ∀ k, k < 5 → parseFieldDescriptor (TX5 k).2.2.1 = some (tyX5 k) := by decide +kernel
abbrev cX5_init : ByteArray := prog_7_method_1_code
def yX5_init : MethodName := ⟨RX5, "<init>", "()V"⟩
abbrev cX5_howMany : ByteArray := prog_7_method_2_code
def yX5_howMany : MethodName := ⟨RX5, "howMany", "(LWillowLaw$Clues;)I"⟩
abbrev cX5_gapAt : ByteArray := prog_7_method_3_code
def yX5_gapAt : MethodName := ⟨RX5, "gapAt", "(LWillowLaw$Clues;I)I"⟩
abbrev cX5_sureOf : ByteArray := prog_7_method_4_code
def yX5_sureOf : MethodName := ⟨RX5, "sureOf", "(LWillowLaw$Clues;I)I"⟩
abbrev cX5_bestAsked : ByteArray := prog_7_method_5_code
def yX5_bestAsked : MethodName := ⟨RX5, "bestAsked", "(LWillowLaw$Clues;)I"⟩
abbrev cX5_look : ByteArray := prog_7_method_6_code
def yX5_look : MethodName := ⟨RX5, "look", "(LWillowLaw$Clues;IZ)V"⟩
abbrev cX5_lookAtSize : ByteArray := prog_7_method_7_code
def yX5_lookAtSize : MethodName := ⟨RX5, "lookAtSize", "(LWillowLaw$Clues;II)V"⟩
abbrev cX5_tally : ByteArray := prog_7_method_8_code
def yX5_tally : MethodName := ⟨RX5, "tally", "(IIII)V"⟩
def RX6 : String := "WillowLaw$Season"
def TX6 : u_T := fun k => match k with
  | 0 => ("WillowLaw$Season", "basket", "LWillowLaw$Basket;", true)
  | 1 => ("WillowLaw$Season", "slipped", "I", false)
  | 2 => ("WillowLaw$Season", "broken", "I", false)
  | 3 => ("WillowLaw$Season", "held", "I", false)
  | _ => ("WillowLaw$Season", "x", "I", false)
def tyX6 : Nat → FieldType := fun k => match k with
  | 0 => .object "WillowLaw$Basket"
  | 1 => .int
  | 2 => .int
  | 3 => .int
  | _ => .int
abbrev wsX60 : List Cond := u_ws RX6 TX6 5
theorem nmX6 : ∀ a, a < 5 → ∀ b, b < 5 → a ≠ b → (TX6 a).2.1 ≠ (TX6 b).2.1 := by decide +kernel
theorem tyX6_ok : ∀ k, k < 5 → parseFieldDescriptor (TX6 k).2.2.1 = some (tyX6 k) := by decide +kernel
abbrev cX6_init : ByteArray := prog_8_method_1_code
def yX6_init : MethodName := ⟨RX6, "<init>", "()V"⟩
abbrev cX6_begin : ByteArray := prog_8_method_2_code
def yX6_begin : MethodName := ⟨RX6, "begin", "(LWillowLaw$Basket;)V"⟩
abbrev cX6_pass : ByteArray := prog_8_method_3_code
def yX6_pass : MethodName := ⟨RX6, "pass", "(LWillowLaw$Basket;LWillowLaw$Year;I)I"⟩
abbrev cX6_happens : ByteArray := prog_8_method_4_code
def yX6_happens : MethodName := ⟨RX6, "happens", "(LWillowLaw$Year;I)Z"⟩
abbrev cX6_strike : ByteArray := prog_8_method_5_code
def yX6_strike : MethodName := ⟨RX6, "strike", "(III)V"⟩
abbrev cX6_mend : ByteArray := prog_8_method_6_code
def yX6_mend : MethodName := ⟨RX6, "mend", "(II)Z"⟩
abbrev cX6_grow : ByteArray := prog_8_method_7_code
def yX6_grow : MethodName := ⟨RX6, "grow", "(II)Z"⟩
abbrev cX6_weave : ByteArray := prog_8_method_8_code
def yX6_weave : MethodName := ⟨RX6, "weave", "(II)Z"⟩
abbrev cX6_winter : ByteArray := prog_8_method_9_code
def yX6_winter : MethodName := ⟨RX6, "winter", "()V"⟩
abbrev cX6_turn : ByteArray := prog_8_method_10_code
def yX6_turn : MethodName := ⟨RX6, "turn", "(Z)Z"⟩
abbrev cX6_draw : ByteArray := prog_8_method_11_code
def yX6_draw : MethodName := ⟨RX6, "draw", "(LWillowLaw$Basket;II)V"⟩
abbrev cX6_drawDeed : ByteArray := prog_8_method_12_code
def yX6_drawDeed : MethodName := ⟨RX6, "drawDeed", "(I)V"⟩
abbrev cX6_drawWeave : ByteArray := prog_8_method_13_code
def yX6_drawWeave : MethodName := ⟨RX6, "drawWeave", "()V"⟩
abbrev cX6_drawBelow : ByteArray := prog_8_method_14_code
def yX6_drawBelow : MethodName := ⟨RX6, "drawBelow", "(I)I"⟩
abbrev cX6_part : ByteArray := prog_8_method_15_code
def yX6_part : MethodName := ⟨RX6, "part", "(I)I"⟩
def RX7 : String := "WillowLaw$Strokes"
def TX7 : u_T := fun k => match k with
  | 0 => ("WillowLaw$Strokes", "gap", "[J", true)
  | 1 => ("WillowLaw$Strokes", "closed", "[I", true)
  | 2 => ("WillowLaw$Strokes", "key", "[I", true)
  | _ => ("WillowLaw$Strokes", "many", "I", false)
def tyX7 : Nat → FieldType := fun k => match k with
  | 0 => .array .long
  | 1 => .array .int
  | 2 => .array .int
  | _ => .int
abbrev wsX70 : List Cond := u_ws RX7 TX7 4
theorem nmX7 : ∀ a, a < 4 → ∀ b, b < 4 → a ≠ b → (TX7 a).2.1 ≠ (TX7 b).2.1 := by decide +kernel
theorem tyX7_ok : ∀ k, k < 4 → parseFieldDescriptor (TX7 k).2.2.1 = some (tyX7 k) := by decide +kernel
abbrev cX7_init : ByteArray := prog_9_method_1_code
def yX7_init : MethodName := ⟨RX7, "<init>", "()V"⟩
abbrev cX7_fewestClosed : ByteArray := prog_9_method_2_code
def yX7_fewestClosed : MethodName := ⟨RX7, "fewestClosed", "(LWillowLaw$Basket;II)I"⟩
abbrev cX7_findGaps : ByteArray := prog_9_method_3_code
def yX7_findGaps : MethodName := ⟨RX7, "findGaps", "(LWillowLaw$Basket;II)V"⟩
abbrev cX7_leastInAll : ByteArray := prog_9_method_4_code
def yX7_leastInAll : MethodName := ⟨RX7, "leastInAll", "(J)I"⟩
abbrev cX7_closeTwo : ByteArray := prog_9_method_5_code
def yX7_closeTwo : MethodName := ⟨RX7, "closeTwo", "()Z"⟩
abbrev cX7_closeThree : ByteArray := prog_9_method_6_code
def yX7_closeThree : MethodName := ⟨RX7, "closeThree", "()Z"⟩
abbrev cX7_forceOf : ByteArray := prog_9_method_7_code
def yX7_forceOf : MethodName := ⟨RX7, "forceOf", "(I)I"⟩
abbrev cX7_stepsOf : ByteArray := prog_9_method_8_code
def yX7_stepsOf : MethodName := ⟨RX7, "stepsOf", "(I)I"⟩
abbrev cX7_costOf : ByteArray := prog_9_method_9_code
def yX7_costOf : MethodName := ⟨RX7, "costOf", "(LWillowLaw$Basket;I)I"⟩
abbrev cX7_spread : ByteArray := prog_9_method_10_code
def yX7_spread : MethodName := ⟨RX7, "spread", "(LWillowLaw$Basket;I)V"⟩
abbrev cX7_lower : ByteArray := prog_9_method_11_code
def yX7_lower : MethodName := ⟨RX7, "lower", "(LWillowLaw$Basket;I)Z"⟩
abbrev cX7_keyAt : ByteArray := prog_9_method_12_code
def yX7_keyAt : MethodName := ⟨RX7, "keyAt", "(I)I"⟩
abbrev cX7_toTheRim : ByteArray := prog_9_method_13_code
def yX7_toTheRim : MethodName := ⟨RX7, "toTheRim", "(LWillowLaw$Basket;)I"⟩
def RX8 : String := "WillowLaw$Tokens"
def TX8 : u_T := fun k => match k with
  | 0 => ("WillowLaw$Tokens", "tape", "[B", true)
  | 1 => ("WillowLaw$Tokens", "length", "I", false)
  | 2 => ("WillowLaw$Tokens", "kind", "I", false)
  | 3 => ("WillowLaw$Tokens", "first", "I", false)
  | 4 => ("WillowLaw$Tokens", "behind", "I", false)
  | _ => ("WillowLaw$Tokens", "number", "I", false)
def tyX8 : Nat → FieldType := fun k => match k with
  | 0 => .array .byte
  | 1 => .int
  | 2 => .int
  | 3 => .int
  | 4 => .int
  | _ => .int
abbrev wsX80 : List Cond := u_ws RX8 TX8 6
theorem nmX8 : ∀ a, a < 6 → ∀ b, b < 6 → a ≠ b → (TX8 a).2.1 ≠ (TX8 b).2.1 := by decide +kernel
theorem tyX8_ok : ∀ k, k < 6 → parseFieldDescriptor (TX8 k).2.2.1 = some (tyX8 k) := by decide +kernel
abbrev cX8_init : ByteArray := prog_10_method_1_code
def yX8_init : MethodName := ⟨RX8, "<init>", "([B)V"⟩
abbrev cX8_begin : ByteArray := prog_10_method_2_code
def yX8_begin : MethodName := ⟨RX8, "begin", "(I)V"⟩
abbrev cX8_kindAt : ByteArray := prog_10_method_3_code
def yX8_kindAt : MethodName := ⟨RX8, "kindAt", "(I)I"⟩
abbrev cX8_advance : ByteArray := prog_10_method_4_code
def yX8_advance : MethodName := ⟨RX8, "advance", "()V"⟩
abbrev cX8_takeNumber : ByteArray := prog_10_method_5_code
def yX8_takeNumber : MethodName := ⟨RX8, "takeNumber", "()V"⟩
abbrev cX8_isWord : ByteArray := prog_10_method_6_code
def yX8_isWord : MethodName := ⟨RX8, "isWord", "(Ljava/lang/String;)Z"⟩
def RX9 : String := "WillowLaw$Told"
def TX9 : u_T := fun k => match k with
  | 0 => ("WillowLaw$Told", "tape", "[B", true)
  | 1 => ("WillowLaw$Told", "many", "[I", true)
  | 2 => ("WillowLaw$Told", "baskets", "[LWillowLaw$Basket;", true)
  | 3 => ("WillowLaw$Told", "years", "[LWillowLaw$Year;", true)
  | 4 => ("WillowLaw$Told", "parishes", "[LWillowLaw$Parish;", true)
  | 5 => ("WillowLaw$Told", "clueTexts", "[LWillowLaw$Clues;", true)
  | 6 => ("WillowLaw$Told", "length", "I", false)
  | 7 => ("WillowLaw$Told", "flaw", "I", false)
  | _ => ("WillowLaw$Told", "place", "I", false)
def tyX9 : Nat → FieldType := fun k => match k with
  | 0 => .array .byte
  | 1 => .array .int
  | 2 => .array (.object "WillowLaw$Basket")
  | 3 => .array (.object "WillowLaw$Year")
  | 4 => .array (.object "WillowLaw$Parish")
  | 5 => .array (.object "WillowLaw$Clues")
  | 6 => .int
  | 7 => .int
  | _ => .int
abbrev wsX90 : List Cond := u_ws RX9 TX9 9
theorem nmX9 : ∀ a, a < 9 → ∀ b, b < 9 → a ≠ b → (TX9 a).2.1 ≠ (TX9 b).2.1 := by decide +kernel
theorem tyX9_ok : ∀ k, k < 9 → parseFieldDescriptor (TX9 k).2.2.1 = some (tyX9 k) := by decide +kernel
abbrev cX9_init : ByteArray := prog_11_method_1_code
def yX9_init : MethodName := ⟨RX9, "<init>", "()V"⟩
abbrev cX9_put : ByteArray := prog_11_method_2_code
def yX9_put : MethodName := ⟨RX9, "put", "(I)V"⟩
abbrev cX9_basketAt : ByteArray := prog_11_method_3_code
def yX9_basketAt : MethodName := ⟨RX9, "basketAt", "(I)LWillowLaw$Basket;"⟩
abbrev cX9_yearAt : ByteArray := prog_11_method_4_code
def yX9_yearAt : MethodName := ⟨RX9, "yearAt", "(I)LWillowLaw$Year;"⟩
abbrev cX9_parishAt : ByteArray := prog_11_method_5_code
def yX9_parishAt : MethodName := ⟨RX9, "parishAt", "(I)LWillowLaw$Parish;"⟩
abbrev cX9_cluesAt : ByteArray := prog_11_method_6_code
def yX9_cluesAt : MethodName := ⟨RX9, "cluesAt", "(I)LWillowLaw$Clues;"⟩
abbrev cX9_keep : ByteArray := prog_11_method_7_code
def yX9_keep : MethodName := ⟨RX9, "keep", "(IILWillowLaw$Reader;)V"⟩
abbrev cX9_take : ByteArray := prog_11_method_8_code
def yX9_take : MethodName := ⟨RX9, "take", "(LWillowLaw$Told;)V"⟩
def RX10 : String := "WillowLaw$Year"
def TX10 : u_T := fun k => match k with
  | 0 => ("WillowLaw$Year", "row", "[I", true)
  | _ => ("WillowLaw$Year", "many", "I", false)
def tyX10 : Nat → FieldType := fun k => match k with
  | 0 => .array .int
  | _ => .int
abbrev wsX100 : List Cond := u_ws RX10 TX10 2
theorem nmX10 : ∀ a, a < 2 → ∀ b, b < 2 → a ≠ b → (TX10 a).2.1 ≠ (TX10 b).2.1 := by decide +kernel
theorem tyX10_ok : ∀ k, k < 2 → parseFieldDescriptor (TX10 k).2.2.1 = some (tyX10 k) := by decide +kernel
abbrev cX10_init : ByteArray := prog_12_method_1_code
def yX10_init : MethodName := ⟨RX10, "<init>", "()V"⟩
abbrev cX10_add : ByteArray := prog_12_method_2_code
def yX10_add : MethodName := ⟨RX10, "add", "(IIII)V"⟩
abbrev cX10_has : ByteArray := prog_12_method_3_code
def yX10_has : MethodName := ⟨RX10, "has", "(I)Z"⟩
abbrev cX10_part : ByteArray := prog_12_method_4_code
def yX10_part : MethodName := ⟨RX10, "part", "(II)I"⟩
abbrev cX10_take : ByteArray := prog_12_method_5_code
def yX10_take : MethodName := ⟨RX10, "take", "(LWillowLaw$Year;)V"⟩
def RX11 : String := "WillowLaw"
def TX11 : u_T := fun k => match k with
  | 0 => ("WillowLaw", "now", "LWillowLaw$Told;", true)
  | 1 => ("WillowLaw", "images", "[LWillowLaw$Told;", true)
  | 2 => ("WillowLaw", "reader", "LWillowLaw$Reader;", true)
  | 3 => ("WillowLaw", "season", "LWillowLaw$Season;", true)
  | 4 => ("WillowLaw", "strokes", "LWillowLaw$Strokes;", true)
  | 5 => ("WillowLaw", "saw", "LWillowLaw$Saw;", true)
  | _ => ("WillowLaw", "search", "LWillowLaw$Search;", true)
def tyX11 : Nat → FieldType := fun k => match k with
  | 0 => .object "WillowLaw$Told"
  | 1 => .array (.object "WillowLaw$Told")
  | 2 => .object "WillowLaw$Reader"
  | 3 => .object "WillowLaw$Season"
  | 4 => .object "WillowLaw$Strokes"
  | 5 => .object "WillowLaw$Saw"
  | _ => .object "WillowLaw$Search"
abbrev wsX110 : List Cond := u_ws RX11 TX11 7
theorem nmX11 : ∀ a, a < 7 → ∀ b, b < 7 → a ≠ b → (TX11 a).2.1 ≠ (TX11 b).2.1 := by decide +kernel
theorem tyX11_ok : ∀ k, k < 7 → parseFieldDescriptor (TX11 k).2.2.1 = some (tyX11 k) := by decide +kernel
abbrev cX11_init : ByteArray := prog_1_method_1_code
def yX11_init : MethodName := ⟨RX11, "<init>", "()V"⟩
abbrev cX11_feed : ByteArray := prog_1_method_2_code
def yX11_feed : MethodName := ⟨RX11, "feed", "(IIIII)I"⟩
abbrev cX11_end : ByteArray := prog_1_method_3_code
def yX11_end : MethodName := ⟨RX11, "end", "(I)I"⟩
abbrev cX11_text : ByteArray := prog_1_method_4_code
def yX11_text : MethodName := ⟨RX11, "text", "(II)I"⟩
abbrev cX11_fault : ByteArray := prog_1_method_5_code
def yX11_fault : MethodName := ⟨RX11, "fault", "(I)I"⟩
abbrev cX11_count : ByteArray := prog_1_method_6_code
def yX11_count : MethodName := ⟨RX11, "count", "(I)I"⟩
abbrev cX11_image : ByteArray := prog_1_method_7_code
def yX11_image : MethodName := ⟨RX11, "image", "(I)Z"⟩
abbrev cX11_again : ByteArray := prog_1_method_8_code
def yX11_again : MethodName := ⟨RX11, "again", "(I)Z"⟩
abbrev cX11_basket : ByteArray := prog_1_method_9_code
def yX11_basket : MethodName := ⟨RX11, "basket", "(II)I"⟩
abbrev cX11_slips : ByteArray := prog_1_method_10_code
def yX11_slips : MethodName := ⟨RX11, "slips", "(IIIZ)I"⟩
abbrev cX11_opens : ByteArray := prog_1_method_11_code
def yX11_opens : MethodName := ⟨RX11, "opens", "(IIIZ)I"⟩
abbrev cX11_closes : ByteArray := prog_1_method_12_code
def yX11_closes : MethodName := ⟨RX11, "closes", "(IIII)I"⟩
abbrev cX11_sieve : ByteArray := prog_1_method_13_code
def yX11_sieve : MethodName := ⟨RX11, "sieve", "(IIIII)I"⟩
abbrev cX11_escape : ByteArray := prog_1_method_14_code
def yX11_escape : MethodName := ⟨RX11, "escape", "(IIZ)I"⟩
abbrev cX11_tunnel : ByteArray := prog_1_method_15_code
def yX11_tunnel : MethodName := ⟨RX11, "tunnel", "(III)I"⟩
abbrev cX11_holes : ByteArray := prog_1_method_16_code
def yX11_holes : MethodName := ⟨RX11, "holes", "(II)I"⟩
abbrev cX11_last : ByteArray := prog_1_method_17_code
def yX11_last : MethodName := ⟨RX11, "last", "(III)J"⟩
abbrev cX11_unlike : ByteArray := prog_1_method_18_code
def yX11_unlike : MethodName := ⟨RX11, "unlike", "(IIZ)I"⟩
abbrev cX11_strictness : ByteArray := prog_1_method_19_code
def yX11_strictness : MethodName := ⟨RX11, "strictness", "(II)I"⟩
abbrev cX11_stout : ByteArray := prog_1_method_20_code
def yX11_stout : MethodName := ⟨RX11, "stout", "(IIIZ)I"⟩
abbrev cX11_soft : ByteArray := prog_1_method_21_code
def yX11_soft : MethodName := ⟨RX11, "soft", "(IIZ)I"⟩
abbrev cX11_mirrored : ByteArray := prog_1_method_22_code
def yX11_mirrored : MethodName := ⟨RX11, "mirrored", "(II)I"⟩
abbrev cX11_deed : ByteArray := prog_1_method_23_code
def yX11_deed : MethodName := ⟨RX11, "deed", "(III)I"⟩
abbrev cX11_till : ByteArray := prog_1_method_24_code
def yX11_till : MethodName := ⟨RX11, "till", "(II)I"⟩
abbrev cX11_state : ByteArray := prog_1_method_25_code
def yX11_state : MethodName := ⟨RX11, "state", "(IIII)I"⟩
abbrev cX11_drawn : ByteArray := prog_1_method_26_code
def yX11_drawn : MethodName := ⟨RX11, "drawn", "(IIII)I"⟩
abbrev cX11_precedent : ByteArray := prog_1_method_27_code
def yX11_precedent : MethodName := ⟨RX11, "precedent", "(IIII)I"⟩
abbrev cX11_parish : ByteArray := prog_1_method_28_code
def yX11_parish : MethodName := ⟨RX11, "parish", "(II)I"⟩
abbrev cX11_cutting : ByteArray := prog_1_method_29_code
def yX11_cutting : MethodName := ⟨RX11, "cutting", "(II)I"⟩
abbrev cX11_kept : ByteArray := prog_1_method_30_code
def yX11_kept : MethodName := ⟨RX11, "kept", "(I)I"⟩
abbrev cX11_game : ByteArray := prog_1_method_31_code
def yX11_game : MethodName := ⟨RX11, "game", "(IZZ)I"⟩
abbrev cX11_divided : ByteArray := prog_1_method_32_code
def yX11_divided : MethodName := ⟨RX11, "divided", "(III)I"⟩
abbrev cX11_clues : ByteArray := prog_1_method_33_code
def yX11_clues : MethodName := ⟨RX11, "clues", "(II)I"⟩
abbrev cX11_gaps : ByteArray := prog_1_method_34_code
def yX11_gaps : MethodName := ⟨RX11, "gaps", "(II)I"⟩
abbrev cX11_isSize : ByteArray := prog_1_method_35_code
def yX11_isSize : MethodName := ⟨RX11, "isSize", "(II)Z"⟩
abbrev cX11_commonDivisor : ByteArray := prog_1_method_36_code
def yX11_commonDivisor : MethodName := ⟨RX11, "commonDivisor", "(JJ)J"⟩
def RX12 : String := "WillowLawModel"
def TX12 : u_T := fun k => match k with
  | 0 => ("WillowLawModel", "code", "I", false)
  | 1 => ("WillowLawModel", "tape", "[B", true)
  | 2 => ("WillowLawModel", "size", "[I", true)
  | 3 => ("WillowLawModel", "fault", "[I", true)
  | 4 => ("WillowLawModel", "faultPlace", "[I", true)
  | 5 => ("WillowLawModel", "many", "[I", true)
  | 6 => ("WillowLawModel", "baskets", "[I", true)
  | 7 => ("WillowLawModel", "years", "[I", true)
  | 8 => ("WillowLawModel", "parishes", "[I", true)
  | 9 => ("WillowLawModel", "hints", "[I", true)
  | 10 => ("WillowLawModel", "reached", "I", false)
  | 11 => ("WillowLawModel", "length", "I", false)
  | 12 => ("WillowLawModel", "begins", "I", false)
  | 13 => ("WillowLawModel", "sort", "I", false)
  | 14 => ("WillowLawModel", "value", "I", false)
  | 15 => ("WillowLawModel", "word", "J", false)
  | 16 => ("WillowLawModel", "wrongAt", "I", false)
  | 17 => ("WillowLawModel", "laterFault", "I", false)
  | 18 => ("WillowLawModel", "laterPlace", "I", false)
  | 19 => ("WillowLawModel", "told", "[I", true)
  | 20 => ("WillowLawModel", "read", "[I", true)
  | 21 => ("WillowLawModel", "farX", "I", false)
  | 22 => ("WillowLawModel", "farY", "I", false)
  | 23 => ("WillowLawModel", "good", "Z", false)
  | 24 => ("WillowLawModel", "basket", "I", false)
  | 25 => ("WillowLawModel", "wide", "I", false)
  | 26 => ("WillowLawModel", "high", "I", false)
  | 27 => ("WillowLawModel", "cells", "I", false)
  | 28 => ("WillowLawModel", "wet", "I", false)
  | 29 => ("WillowLawModel", "thick", "[I", true)
  | 30 => ("WillowLawModel", "wear", "[I", true)
  | 31 => ("WillowLawModel", "open", "[I", true)
  | 32 => ("WillowLawModel", "year", "I", false)
  | 33 => ("WillowLawModel", "came", "[I", true)
  | 34 => ("WillowLawModel", "gaps", "[J", true)
  | 35 => ("WillowLawModel", "gapMany", "I", false)
  | 36 => ("WillowLawModel", "closed", "[I", true)
  | 37 => ("WillowLawModel", "soon", "[I", true)
  | 38 => ("WillowLawModel", "hole", "[I", true)
  | 39 => ("WillowLawModel", "slipSizes", "[I", true)
  | 40 => ("WillowLawModel", "parish", "I", false)
  | 41 => ("WillowLawModel", "rods", "I", false)
  | 42 => ("WillowLawModel", "pieces", "I", false)
  | 43 => ("WillowLawModel", "must", "[I", true)
  | 44 => ("WillowLawModel", "costOf", "[I", true)
  | 45 => ("WillowLawModel", "piles", "[I", true)
  | 46 => ("WillowLawModel", "clueText", "I", false)
  | 47 => ("WillowLawModel", "found", "I", false)
  | 48 => ("WillowLawModel", "fitting", "[I", true)
  | 49 => ("WillowLawModel", "seed", "I", false)
  | _ => ("WillowLawModel", "kept", "[Z", true)
def tyX12 : Nat → FieldType := fun k => match k with
  | 0 => .int
  | 1 => .array .byte
  | 2 => .array .int
  | 3 => .array .int
  | 4 => .array .int
  | 5 => .array .int
  | 6 => .array .int
  | 7 => .array .int
  | 8 => .array .int
  | 9 => .array .int
  | 10 => .int
  | 11 => .int
  | 12 => .int
  | 13 => .int
  | 14 => .int
  | 15 => .long
  | 16 => .int
  | 17 => .int
  | 18 => .int
  | 19 => .array .int
  | 20 => .array .int
  | 21 => .int
  | 22 => .int
  | 23 => .boolean
  | 24 => .int
  | 25 => .int
  | 26 => .int
  | 27 => .int
  | 28 => .int
  | 29 => .array .int
  | 30 => .array .int
  | 31 => .array .int
  | 32 => .int
  | 33 => .array .int
  | 34 => .array .long
  | 35 => .int
  | 36 => .array .int
  | 37 => .array .int
  | 38 => .array .int
  | 39 => .array .int
  | 40 => .int
  | 41 => .int
  | 42 => .int
  | 43 => .array .int
  | 44 => .array .int
  | 45 => .array .int
  | 46 => .int
  | 47 => .int
  | 48 => .array .int
  | 49 => .int
  | _ => .array .boolean
abbrev wsX120 : List Cond := u_ws RX12 TX12 51
theorem nmX12 : ∀ a, a < 51 → ∀ b, b < 51 → a ≠ b → (TX12 a).2.1 ≠ (TX12 b).2.1 := by decide +kernel
theorem tyX12_ok : ∀ k, k < 51 → parseFieldDescriptor (TX12 k).2.2.1 = some (tyX12 k) := by decide +kernel
abbrev cX12_init : ByteArray := prog_14_method_1_code
def yX12_init : MethodName := ⟨RX12, "<init>", "()V"⟩
abbrev cX12_in : ByteArray := prog_14_method_3_code
def yX12_in : MethodName := ⟨RX12, "in", "(III)Z"⟩
abbrev cX12_has : ByteArray := prog_14_method_4_code
def yX12_has : MethodName := ⟨RX12, "has", "(II)Z"⟩
abbrev cX12_greater : ByteArray := prog_14_method_5_code
def yX12_greater : MethodName := ⟨RX12, "greater", "(II)I"⟩
abbrev cX12_lesser : ByteArray := prog_14_method_6_code
def yX12_lesser : MethodName := ⟨RX12, "lesser", "(II)I"⟩
abbrev cX12_ones : ByteArray := prog_14_method_7_code
def yX12_ones : MethodName := ⟨RX12, "ones", "(I)I"⟩
abbrev cX12_copyRow : ByteArray := prog_14_method_8_code
def yX12_copyRow : MethodName := ⟨RX12, "copyRow", "([IIII)V"⟩
abbrev cX12_copyAll : ByteArray := prog_14_method_9_code
def yX12_copyAll : MethodName := ⟨RX12, "copyAll", "(II)V"⟩
abbrev cX12_is : ByteArray := prog_14_method_10_code
def yX12_is : MethodName := ⟨RX12, "is", "(II)Z"⟩
abbrev cX12_feed : ByteArray := prog_14_method_11_code
def yX12_feed : MethodName := ⟨RX12, "feed", "(IIIII)I"⟩
abbrev cX12_four : ByteArray := prog_14_method_12_code
def yX12_four : MethodName := ⟨RX12, "four", "(I)V"⟩
abbrev cX12_end : ByteArray := prog_14_method_13_code
def yX12_end : MethodName := ⟨RX12, "end", "(I)I"⟩
abbrev cX12_see : ByteArray := prog_14_method_14_code
def yX12_see : MethodName := ⟨RX12, "see", "()I"⟩
abbrev cX12_token : ByteArray := prog_14_method_15_code
def yX12_token : MethodName := ⟨RX12, "token", "()V"⟩
abbrev cX12_fails : ByteArray := prog_14_method_16_code
def yX12_fails : MethodName := ⟨RX12, "fails", "()Z"⟩
abbrev cX12_later : ByteArray := prog_14_method_17_code
def yX12_later : MethodName := ⟨RX12, "later", "(II)V"⟩
abbrev cX12_take : ByteArray := prog_14_method_18_code
def yX12_take : MethodName := ⟨RX12, "take", "(III)Z"⟩
abbrev cX12_takeCell : ByteArray := prog_14_method_19_code
def yX12_takeCell : MethodName := ⟨RX12, "takeCell", "(I)Z"⟩
abbrev cX12_full : ByteArray := prog_14_method_20_code
def yX12_full : MethodName := ⟨RX12, "full", "(III)V"⟩
abbrev cX12_sizeLine : ByteArray := prog_14_method_21_code
def yX12_sizeLine : MethodName := ⟨RX12, "sizeLine", "()Z"⟩
abbrev cX12_rodLine : ByteArray := prog_14_method_22_code
def yX12_rodLine : MethodName := ⟨RX12, "rodLine", "(Z)Z"⟩
abbrev cX12_openLine : ByteArray := prog_14_method_23_code
def yX12_openLine : MethodName := ⟨RX12, "openLine", "()Z"⟩
abbrev cX12_basketLine : ByteArray := prog_14_method_24_code
def yX12_basketLine : MethodName := ⟨RX12, "basketLine", "(J)Z"⟩
abbrev cX12_deedBy : ByteArray := prog_14_method_25_code
def yX12_deedBy : MethodName := ⟨RX12, "deedBy", "(J)I"⟩
abbrev cX12_takeSide : ByteArray := prog_14_method_26_code
def yX12_takeSide : MethodName := ⟨RX12, "takeSide", "()Z"⟩
abbrev cX12_keep : ByteArray := prog_14_method_27_code
def yX12_keep : MethodName := ⟨RX12, "keep", "(IIII)V"⟩
abbrev cX12_yearLine : ByteArray := prog_14_method_28_code
def yX12_yearLine : MethodName := ⟨RX12, "yearLine", "(JI)Z"⟩
abbrev cX12_parishLine : ByteArray := prog_14_method_29_code
def yX12_parishLine : MethodName := ⟨RX12, "parishLine", "(JI)Z"⟩
abbrev cX12_clueLine : ByteArray := prog_14_method_30_code
def yX12_clueLine : MethodName := ⟨RX12, "clueLine", "(JI)Z"⟩
abbrev cX12_lineOf : ByteArray := prog_14_method_31_code
def yX12_lineOf : MethodName := ⟨RX12, "lineOf", "(IJI)Z"⟩
abbrev cX12_lines : ByteArray := prog_14_method_32_code
def yX12_lines : MethodName := ⟨RX12, "lines", "(I)Z"⟩
abbrev cX12_blank : ByteArray := prog_14_method_33_code
def yX12_blank : MethodName := ⟨RX12, "blank", "(I)V"⟩
abbrev cX12_readText : ByteArray := prog_14_method_34_code
def yX12_readText : MethodName := ⟨RX12, "readText", "(I)Z"⟩
abbrev cX12_store : ByteArray := prog_14_method_35_code
def yX12_store : MethodName := ⟨RX12, "store", "([III)V"⟩
abbrev cX12_storeAll : ByteArray := prog_14_method_36_code
def yX12_storeAll : MethodName := ⟨RX12, "storeAll", "(II)V"⟩
abbrev cX12_text : ByteArray := prog_14_method_37_code
def yX12_text : MethodName := ⟨RX12, "text", "(II)I"⟩
abbrev cX12_fault : ByteArray := prog_14_method_38_code
def yX12_fault : MethodName := ⟨RX12, "fault", "(I)I"⟩
abbrev cX12_of : ByteArray := prog_14_method_39_code
def yX12_of : MethodName := ⟨RX12, "of", "(I)I"⟩
abbrev cX12_hand : ByteArray := prog_14_method_40_code
def yX12_hand : MethodName := ⟨RX12, "hand", "(I)Z"⟩
abbrev cX12_isCell : ByteArray := prog_14_method_41_code
def yX12_isCell : MethodName := ⟨RX12, "isCell", "(I)Z"⟩
abbrev cX12_isOpen : ByteArray := prog_14_method_42_code
def yX12_isOpen : MethodName := ⟨RX12, "isOpen", "(I)Z"⟩
abbrev cX12_strength : ByteArray := prog_14_method_43_code
def yX12_strength : MethodName := ⟨RX12, "strength", "(I)I"⟩
abbrev cX12_openMany : ByteArray := prog_14_method_44_code
def yX12_openMany : MethodName := ⟨RX12, "openMany", "()I"⟩
abbrev cX12_isSize : ByteArray := prog_14_method_45_code
def yX12_isSize : MethodName := ⟨RX12, "isSize", "(II)Z"⟩
abbrev cX12_isWithin : ByteArray := prog_14_method_46_code
def yX12_isWithin : MethodName := ⟨RX12, "isWithin", "(II)Z"⟩
abbrev cX12_isPlace : ByteArray := prog_14_method_47_code
def yX12_isPlace : MethodName := ⟨RX12, "isPlace", "(III)Z"⟩
abbrev cX12_holdsAt : ByteArray := prog_14_method_48_code
def yX12_holdsAt : MethodName := ⟨RX12, "holdsAt", "(IIIZ)I"⟩
abbrev cX12_slipsBy : ByteArray := prog_14_method_49_code
def yX12_slipsBy : MethodName := ⟨RX12, "slipsBy", "(II)I"⟩
abbrev cX12_weakest : ByteArray := prog_14_method_50_code
def yX12_weakest : MethodName := ⟨RX12, "weakest", "(IIZ)I"⟩
abbrev cX12_ofRods : ByteArray := prog_14_method_51_code
def yX12_ofRods : MethodName := ⟨RX12, "ofRods", "(I)I"⟩
abbrev cX12_basket : ByteArray := prog_14_method_52_code
def yX12_basket : MethodName := ⟨RX12, "basket", "(II)I"⟩
abbrev cX12_slips : ByteArray := prog_14_method_53_code
def yX12_slips : MethodName := ⟨RX12, "slips", "(IIIZ)I"⟩
abbrev cX12_deeds : ByteArray := prog_14_method_54_code
def yX12_deeds : MethodName := ⟨RX12, "deeds", "()I"⟩
abbrev cX12_deedOf : ByteArray := prog_14_method_55_code
def yX12_deedOf : MethodName := ⟨RX12, "deedOf", "(II)I"⟩
abbrev cX12_hasYear : ByteArray := prog_14_method_56_code
def yX12_hasYear : MethodName := ⟨RX12, "hasYear", "(I)Z"⟩
abbrev cX12_deed : ByteArray := prog_14_method_57_code
def yX12_deed : MethodName := ⟨RX12, "deed", "(III)I"⟩
abbrev cX12_begin : ByteArray := prog_14_method_58_code
def yX12_begin : MethodName := ⟨RX12, "begin", "()V"⟩
abbrev cX12_comes : ByteArray := prog_14_method_59_code
def yX12_comes : MethodName := ⟨RX12, "comes", "(III)Z"⟩
abbrev cX12_tends : ByteArray := prog_14_method_60_code
def yX12_tends : MethodName := ⟨RX12, "tends", "(III)Z"⟩
abbrev cX12_weaves : ByteArray := prog_14_method_61_code
def yX12_weaves : MethodName := ⟨RX12, "weaves", "(II)Z"⟩
abbrev cX12_winters : ByteArray := prog_14_method_62_code
def yX12_winters : MethodName := ⟨RX12, "winters", "()Z"⟩
abbrev cX12_soaks : ByteArray := prog_14_method_63_code
def yX12_soaks : MethodName := ⟨RX12, "soaks", "(I)Z"⟩
abbrev cX12_does : ByteArray := prog_14_method_64_code
def yX12_does : MethodName := ⟨RX12, "does", "(IIII)Z"⟩
abbrev cX12_doesDeed : ByteArray := prog_14_method_65_code
def yX12_doesDeed : MethodName := ⟨RX12, "doesDeed", "(I)Z"⟩
abbrev cX12_play : ByteArray := prog_14_method_66_code
def yX12_play : MethodName := ⟨RX12, "play", "(I)I"⟩
abbrev cX12_layAll : ByteArray := prog_14_method_67_code
def yX12_layAll : MethodName := ⟨RX12, "layAll", "(II)Z"⟩
abbrev cX12_till : ByteArray := prog_14_method_68_code
def yX12_till : MethodName := ⟨RX12, "till", "(II)I"⟩
abbrev cX12_allStrength : ByteArray := prog_14_method_69_code
def yX12_allStrength : MethodName := ⟨RX12, "allStrength", "()I"⟩
abbrev cX12_ofState : ByteArray := prog_14_method_70_code
def yX12_ofState : MethodName := ⟨RX12, "ofState", "(I)I"⟩
abbrev cX12_state : ByteArray := prog_14_method_71_code
def yX12_state : MethodName := ⟨RX12, "state", "(IIII)I"⟩
abbrev cX12_opens : ByteArray := prog_14_method_72_code
def yX12_opens : MethodName := ⟨RX12, "opens", "(IIIZ)I"⟩
abbrev cX12_findGaps : ByteArray := prog_14_method_73_code
def yX12_findGaps : MethodName := ⟨RX12, "findGaps", "(II)V"⟩
abbrev cX12_areClosed : ByteArray := prog_14_method_74_code
def yX12_areClosed : MethodName := ⟨RX12, "areClosed", "(J)Z"⟩
abbrev cX12_doClose : ByteArray := prog_14_method_75_code
def yX12_doClose : MethodName := ⟨RX12, "doClose", "(I)Z"⟩
abbrev cX12_closes : ByteArray := prog_14_method_76_code
def yX12_closes : MethodName := ⟨RX12, "closes", "(IIII)I"⟩
abbrev cX12_sieve : ByteArray := prog_14_method_77_code
def yX12_sieve : MethodName := ⟨RX12, "sieve", "(IIIII)I"⟩
abbrev cX12_next : ByteArray := prog_14_method_78_code
def yX12_next : MethodName := ⟨RX12, "next", "(II)I"⟩
abbrev cX12_costs : ByteArray := prog_14_method_79_code
def yX12_costs : MethodName := ⟨RX12, "costs", "(I)I"⟩
abbrev cX12_findSoon : ByteArray := prog_14_method_80_code
def yX12_findSoon : MethodName := ⟨RX12, "findSoon", "(I)V"⟩
abbrev cX12_isEdge : ByteArray := prog_14_method_81_code
def yX12_isEdge : MethodName := ⟨RX12, "isEdge", "(I)Z"⟩
abbrev cX12_escape : ByteArray := prog_14_method_82_code
def yX12_escape : MethodName := ⟨RX12, "escape", "(IIZ)I"⟩
abbrev cX12_findHoles : ByteArray := prog_14_method_83_code
def yX12_findHoles : MethodName := ⟨RX12, "findHoles", "()V"⟩
abbrev cX12_sizeOf : ByteArray := prog_14_method_84_code
def yX12_sizeOf : MethodName := ⟨RX12, "sizeOf", "(I)I"⟩
abbrev cX12_largestGap : ByteArray := prog_14_method_85_code
def yX12_largestGap : MethodName := ⟨RX12, "largestGap", "()I"⟩
abbrev cX12_holes : ByteArray := prog_14_method_86_code
def yX12_holes : MethodName := ⟨RX12, "holes", "(II)I"⟩
abbrev cX12_lastsBy : ByteArray := prog_14_method_87_code
def yX12_lastsBy : MethodName := ⟨RX12, "lastsBy", "(I)J"⟩
abbrev cX12_tens : ByteArray := prog_14_method_88_code
def yX12_tens : MethodName := ⟨RX12, "tens", "(I)J"⟩
abbrev cX12_common : ByteArray := prog_14_method_89_code
def yX12_common : MethodName := ⟨RX12, "common", "(JJ)J"⟩
abbrev cX12_last : ByteArray := prog_14_method_90_code
def yX12_last : MethodName := ⟨RX12, "last", "(III)J"⟩
abbrev cX12_unlike : ByteArray := prog_14_method_91_code
def yX12_unlike : MethodName := ⟨RX12, "unlike", "(IIZ)I"⟩
abbrev cX12_parishOf : ByteArray := prog_14_method_92_code
def yX12_parishOf : MethodName := ⟨RX12, "parishOf", "(I)I"⟩
abbrev cX12_hasParish : ByteArray := prog_14_method_93_code
def yX12_hasParish : MethodName := ⟨RX12, "hasParish", "(I)Z"⟩
abbrev cX12_rod : ByteArray := prog_14_method_94_code
def yX12_rod : MethodName := ⟨RX12, "rod", "(I)I"⟩
abbrev cX12_parish : ByteArray := prog_14_method_95_code
def yX12_parish : MethodName := ⟨RX12, "parish", "(II)I"⟩
abbrev cX12_sumOf : ByteArray := prog_14_method_96_code
def yX12_sumOf : MethodName := ⟨RX12, "sumOf", "(I)I"⟩
abbrev cX12_findCosts : ByteArray := prog_14_method_97_code
def yX12_findCosts : MethodName := ⟨RX12, "findCosts", "(Z)V"⟩
abbrev cX12_costAll : ByteArray := prog_14_method_98_code
def yX12_costAll : MethodName := ⟨RX12, "costAll", "(Z)I"⟩
abbrev cX12_cutFrom : ByteArray := prog_14_method_99_code
def yX12_cutFrom : MethodName := ⟨RX12, "cutFrom", "(I)I"⟩
abbrev cX12_longest : ByteArray := prog_14_method_100_code
def yX12_longest : MethodName := ⟨RX12, "longest", "()I"⟩
abbrev cX12_cutting : ByteArray := prog_14_method_101_code
def yX12_cutting : MethodName := ⟨RX12, "cutting", "(II)I"⟩
abbrev cX12_isWon : ByteArray := prog_14_method_102_code
def yX12_isWon : MethodName := ⟨RX12, "isWon", "(Z)Z"⟩
abbrev cX12_game : ByteArray := prog_14_method_103_code
def yX12_game : MethodName := ⟨RX12, "game", "(IZZ)I"⟩
abbrev cX12_hintOf : ByteArray := prog_14_method_104_code
def yX12_hintOf : MethodName := ⟨RX12, "hintOf", "(I)I"⟩
abbrev cX12_hasClues : ByteArray := prog_14_method_105_code
def yX12_hasClues : MethodName := ⟨RX12, "hasClues", "(I)Z"⟩
abbrev cX12_clues : ByteArray := prog_14_method_106_code
def yX12_clues : MethodName := ⟨RX12, "clues", "(II)I"⟩
abbrev cX12_widthOf : ByteArray := prog_14_method_107_code
def yX12_widthOf : MethodName := ⟨RX12, "widthOf", "(I)I"⟩
abbrev cX12_heightOf : ByteArray := prog_14_method_108_code
def yX12_heightOf : MethodName := ⟨RX12, "heightOf", "(I)I"⟩
abbrev cX12_isInGap : ByteArray := prog_14_method_109_code
def yX12_isInGap : MethodName := ⟨RX12, "isInGap", "(III)Z"⟩
abbrev cX12_isSo : ByteArray := prog_14_method_110_code
def yX12_isSo : MethodName := ⟨RX12, "isSo", "(I)Z"⟩
abbrev cX12_findFitting : ByteArray := prog_14_method_111_code
def yX12_findFitting : MethodName := ⟨RX12, "findFitting", "()V"⟩
abbrev cX12_openIn : ByteArray := prog_14_method_112_code
def yX12_openIn : MethodName := ⟨RX12, "openIn", "(I)I"⟩
abbrev cX12_askOf : ByteArray := prog_14_method_113_code
def yX12_askOf : MethodName := ⟨RX12, "askOf", "()I"⟩
abbrev cX12_gaps : ByteArray := prog_14_method_114_code
def yX12_gaps : MethodName := ⟨RX12, "gaps", "(II)I"⟩
abbrev cX12_draw : ByteArray := prog_14_method_115_code
def yX12_draw : MethodName := ⟨RX12, "draw", "(I)I"⟩
abbrev cX12_drawDeed : ByteArray := prog_14_method_116_code
def yX12_drawDeed : MethodName := ⟨RX12, "drawDeed", "()V"⟩
abbrev cX12_drawn : ByteArray := prog_14_method_117_code
def yX12_drawn : MethodName := ⟨RX12, "drawn", "(IIII)I"⟩
abbrev cX12_precedent : ByteArray := prog_14_method_118_code
def yX12_precedent : MethodName := ⟨RX12, "precedent", "(IIII)I"⟩
abbrev cX12_holdOf : ByteArray := prog_14_method_119_code
def yX12_holdOf : MethodName := ⟨RX12, "holdOf", "(II)I"⟩
abbrev cX12_stout : ByteArray := prog_14_method_120_code
def yX12_stout : MethodName := ⟨RX12, "stout", "(IIIZ)I"⟩
abbrev cX12_soft : ByteArray := prog_14_method_121_code
def yX12_soft : MethodName := ⟨RX12, "soft", "(IIZ)I"⟩
abbrev cX12_tunnel : ByteArray := prog_14_method_122_code
def yX12_tunnel : MethodName := ⟨RX12, "tunnel", "(III)I"⟩
abbrev cX12_columnMany : ByteArray := prog_14_method_123_code
def yX12_columnMany : MethodName := ⟨RX12, "columnMany", "(I)I"⟩
abbrev cX12_mirrors : ByteArray := prog_14_method_124_code
def yX12_mirrors : MethodName := ⟨RX12, "mirrors", "()I"⟩
abbrev cX12_mirrored : ByteArray := prog_14_method_125_code
def yX12_mirrored : MethodName := ⟨RX12, "mirrored", "(II)I"⟩
abbrev cX12_ownerOf : ByteArray := prog_14_method_126_code
def yX12_ownerOf : MethodName := ⟨RX12, "ownerOf", "(III)I"⟩
abbrev cX12_mostHad : ByteArray := prog_14_method_127_code
def yX12_mostHad : MethodName := ⟨RX12, "mostHad", "(II)I"⟩
abbrev cX12_divided : ByteArray := prog_14_method_128_code
def yX12_divided : MethodName := ⟨RX12, "divided", "(III)I"⟩
abbrev cX12_kept : ByteArray := prog_14_method_129_code
def yX12_kept : MethodName := ⟨RX12, "kept", "(I)I"⟩
abbrev cX12_count : ByteArray := prog_14_method_130_code
def yX12_count : MethodName := ⟨RX12, "count", "(I)I"⟩
abbrev cX12_image : ByteArray := prog_14_method_131_code
def yX12_image : MethodName := ⟨RX12, "image", "(I)Z"⟩
abbrev cX12_again : ByteArray := prog_14_method_132_code
def yX12_again : MethodName := ⟨RX12, "again", "(I)Z"⟩
def RJ6 : String := "java/lang/Integer"
def TJ6 : u_T := fun k => match k with
  | _ => ("", "", "", false)
def tyJ6 : Nat → FieldType := fun k => match k with
  | _ => .int
abbrev wsJ60 : List Cond := u_ws RJ6 TJ6 0
theorem nmJ6 : ∀ a, a < 0 → ∀ b, b < 0 → a ≠ b → (TJ6 a).2.1 ≠ (TJ6 b).2.1 := by decide +kernel
theorem tyJ6_ok : ∀ k, k < 0 → parseFieldDescriptor (TJ6 k).2.2.1 = some (tyJ6 k) := by decide +kernel
abbrev cJ6_numberOfTrailingZeros_0f7a4 : ByteArray := prog_15_method_48_code
def yJ6_numberOfTrailingZeros_0f7a4 : MethodName := ⟨RJ6, "numberOfTrailingZeros", "(I)I"⟩
abbrev cJ6_bitCount_0f7a4 : ByteArray := prog_15_method_49_code
def yJ6_bitCount_0f7a4 : MethodName := ⟨RJ6, "bitCount", "(I)I"⟩
def RJ13 : String := "java/lang/Long"
def TJ13 : u_T := fun k => match k with
  | _ => ("", "", "", false)
def tyJ13 : Nat → FieldType := fun k => match k with
  | _ => .int
abbrev wsJ130 : List Cond := u_ws RJ13 TJ13 0
theorem nmJ13 : ∀ a, a < 0 → ∀ b, b < 0 → a ≠ b → (TJ13 a).2.1 ≠ (TJ13 b).2.1 := by decide +kernel
theorem tyJ13_ok : ∀ k, k < 0 → parseFieldDescriptor (TJ13 k).2.2.1 = some (tyJ13 k) := by decide +kernel
abbrev cJ13_numberOfTrailingZeros_95d88 : ByteArray := prog_16_method_49_code
def yJ13_numberOfTrailingZeros_95d88 : MethodName := ⟨RJ13, "numberOfTrailingZeros", "(J)I"⟩
abbrev cJ13_bitCount_95d88 : ByteArray := prog_16_method_50_code
def yJ13_bitCount_95d88 : MethodName := ⟨RJ13, "bitCount", "(J)I"⟩
def RJ9 : String := "java/lang/Math"
def TJ9 : u_T := fun k => match k with
  | _ => ("", "", "", false)
def tyJ9 : Nat → FieldType := fun k => match k with
  | _ => .int
abbrev wsJ90 : List Cond := u_ws RJ9 TJ9 0
theorem nmJ9 : ∀ a, a < 0 → ∀ b, b < 0 → a ≠ b → (TJ9 a).2.1 ≠ (TJ9 b).2.1 := by decide +kernel
theorem tyJ9_ok : ∀ k, k < 0 → parseFieldDescriptor (TJ9 k).2.2.1 = some (tyJ9 k) := by decide +kernel
abbrev cJ9_max_7cf53 : ByteArray := prog_17_method_65_code
def yJ9_max_7cf53 : MethodName := ⟨RJ9, "max", "(II)I"⟩
abbrev cJ9_min_7cf53 : ByteArray := prog_17_method_69_code
def yJ9_min_7cf53 : MethodName := ⟨RJ9, "min", "(II)I"⟩
def RJ0 : String := "java/lang/String"
def TJ0 : u_T := fun k => match k with
  | _ => ("", "", "", false)
def tyJ0 : Nat → FieldType := fun k => match k with
  | _ => .int
abbrev wsJ00 : List Cond := u_ws RJ0 TJ0 0
theorem nmJ0 : ∀ a, a < 0 → ∀ b, b < 0 → a ≠ b → (TJ0 a).2.1 ≠ (TJ0 b).2.1 := by decide +kernel
theorem tyJ0_ok : ∀ k, k < 0 → parseFieldDescriptor (TJ0 k).2.2.1 = some (tyJ0 k) := by decide +kernel
abbrev cJ0_length_8abf5 : ByteArray := prog_18_method_54_code
def yJ0_length_8abf5 : MethodName := ⟨RJ0, "length", "()I"⟩
abbrev cJ0_charAt_5068e : ByteArray := prog_18_method_56_code
def yJ0_charAt_5068e : MethodName := ⟨RJ0, "charAt", "(I)C"⟩
abbrev cJ0_coder_7d493 : ByteArray := prog_18_method_152_code
def yJ0_coder_7d493 : MethodName := ⟨RJ0, "coder", "()B"⟩
abbrev cJ0_isLatin1_aae02 : ByteArray := prog_18_method_154_code
def yJ0_isLatin1_aae02 : MethodName := ⟨RJ0, "isLatin1", "()Z"⟩
abbrev cJ0_checkIndex_df160 : ByteArray := prog_18_method_155_code
def yJ0_checkIndex_df160 : MethodName := ⟨RJ0, "checkIndex", "(II)V"⟩
def RJ1 : String := "java/lang/StringLatin1"
def TJ1 : u_T := fun k => match k with
  | _ => ("", "", "", false)
def tyJ1 : Nat → FieldType := fun k => match k with
  | _ => .int
abbrev wsJ10 : List Cond := u_ws RJ1 TJ1 0
theorem nmJ1 : ∀ a, a < 0 → ∀ b, b < 0 → a ≠ b → (TJ1 a).2.1 ≠ (TJ1 b).2.1 := by decide +kernel
theorem tyJ1_ok : ∀ k, k < 0 → parseFieldDescriptor (TJ1 k).2.2.1 = some (tyJ1 k) := by decide +kernel
abbrev cJ1_charAt_3b067 : ByteArray := prog_19_method_2_code
def yJ1_charAt_3b067 : MethodName := ⟨RJ1, "charAt", "([BI)C"⟩
def RJ2 : String := "java/lang/StringUTF16"
def TJ2 : u_T := fun k => match k with
  | _ => ("", "", "", false)
def tyJ2 : Nat → FieldType := fun k => match k with
  | _ => .int
abbrev wsJ20 : List Cond := u_ws RJ2 TJ2 0
theorem nmJ2 : ∀ a, a < 0 → ∀ b, b < 0 → a ≠ b → (TJ2 a).2.1 ≠ (TJ2 b).2.1 := by decide +kernel
theorem tyJ2_ok : ∀ k, k < 0 → parseFieldDescriptor (TJ2 k).2.2.1 = some (tyJ2 k) := by decide +kernel
abbrev cJ2_getChar_3b067 : ByteArray := prog_20_method_5_code
def yJ2_getChar_3b067 : MethodName := ⟨RJ2, "getChar", "([BI)C"⟩
abbrev cJ2_length_9d52b : ByteArray := prog_20_method_6_code
def yJ2_length_9d52b : MethodName := ⟨RJ2, "length", "([B)I"⟩
abbrev cJ2_charAt_3b067 : ByteArray := prog_20_method_83_code
def yJ2_charAt_3b067 : MethodName := ⟨RJ2, "charAt", "([BI)C"⟩
abbrev cJ2_checkIndex_2214a : ByteArray := prog_20_method_91_code
def yJ2_checkIndex_2214a : MethodName := ⟨RJ2, "checkIndex", "(I[B)V"⟩
def RJ10 : String := "java/lang/System"
def TJ10 : u_T := fun k => match k with
  | _ => ("", "", "", false)
def tyJ10 : Nat → FieldType := fun k => match k with
  | _ => .int
abbrev wsJ100 : List Cond := u_ws RJ10 TJ10 0
theorem nmJ10 : ∀ a, a < 0 → ∀ b, b < 0 → a ≠ b → (TJ10 a).2.1 ≠ (TJ10 b).2.1 := by decide +kernel
theorem tyJ10_ok : ∀ k, k < 0 → parseFieldDescriptor (TJ10 k).2.2.1 = some (tyJ10 k) := by decide +kernel
def RJ3 : String := "jdk/internal/util/Preconditions"
def TJ3 : u_T := fun k => match k with
  | _ => ("", "", "", false)
def tyJ3 : Nat → FieldType := fun k => match k with
  | _ => .int
abbrev wsJ30 : List Cond := u_ws RJ3 TJ3 0
theorem nmJ3 : ∀ a, a < 0 → ∀ b, b < 0 → a ≠ b → (TJ3 a).2.1 ≠ (TJ3 b).2.1 := by decide +kernel
theorem tyJ3_ok : ∀ k, k < 0 → parseFieldDescriptor (TJ3 k).2.2.1 = some (tyJ3 k) := by decide +kernel
abbrev cJ3_checkIndex_8e157 : ByteArray := prog_22_method_11_code
def yJ3_checkIndex_8e157 : MethodName := ⟨RJ3, "checkIndex", "(IILjava/util/function/BiFunction;)I"⟩
def RL : String := "WillowLawLaw"
abbrev cL_law : ByteArray := code
def yL_law : MethodName := ⟨RL, "law", "([I)Z"⟩
