-- ===== PART A: goes FIRST, ahead of the names: the tables' words, and 'selects' of the private methods out of them =====
/-- a private method of a class that the tables say can be made, by its rows of tables_1 -/
def lw_okq (q : MethodName × Nat) : Prop := (q.1.cls ≠ "java/lang/invoke/MethodHandle" ∧ q.1.cls ≠ "java/lang/invoke/VarHandle") ∧ Cond.instantiable q.1.cls q.2 ∈ tables_1 ∧ Cond.privateMethod q.1 ∈ tables_1 ∧ Cond.instanceMethod q.1 ∈ tables_1
theorem lw_p0 : lw_okq (⟨"InkLake", "refuse", "(I)I"⟩, 18) := ⟨⟨by decide +kernel, by decide +kernel⟩, List.mem_of_getElem? (i := 19) (by decide +kernel), List.mem_of_getElem? (i := 397) (by decide +kernel), List.mem_of_getElem? (i := 398) (by decide +kernel)⟩
theorem lw_p1 : lw_okq (⟨"InkLake", "putNumber", "(I)V"⟩, 18) := ⟨⟨by decide +kernel, by decide +kernel⟩, List.mem_of_getElem? (i := 19) (by decide +kernel), List.mem_of_getElem? (i := 401) (by decide +kernel), List.mem_of_getElem? (i := 402) (by decide +kernel)⟩
theorem lw_p2 : lw_okq (⟨"InkLake", "takeTape", "()I"⟩, 18) := ⟨⟨by decide +kernel, by decide +kernel⟩, List.mem_of_getElem? (i := 19) (by decide +kernel), List.mem_of_getElem? (i := 413) (by decide +kernel), List.mem_of_getElem? (i := 414) (by decide +kernel)⟩
theorem lw_p3 : lw_okq (⟨"InkLake$Marks", "put", "(III)V"⟩, 4) := ⟨⟨by decide +kernel, by decide +kernel⟩, List.mem_of_getElem? (i := 33) (by decide +kernel), List.mem_of_getElem? (i := 483) (by decide +kernel), List.mem_of_getElem? (i := 484) (by decide +kernel)⟩
theorem lw_p4 : lw_okq (⟨"InkLake$Reader", "need", "(I)V"⟩, 9) := ⟨⟨by decide +kernel, by decide +kernel⟩, List.mem_of_getElem? (i := 27) (by decide +kernel), List.mem_of_getElem? (i := 501) (by decide +kernel), List.mem_of_getElem? (i := 502) (by decide +kernel)⟩
theorem lw_p5 : lw_okq (⟨"InkLake$Reader", "next", "()I"⟩, 9) := ⟨⟨by decide +kernel, by decide +kernel⟩, List.mem_of_getElem? (i := 27) (by decide +kernel), List.mem_of_getElem? (i := 505) (by decide +kernel), List.mem_of_getElem? (i := 506) (by decide +kernel)⟩
theorem lw_p6 : lw_okq (⟨"InkLake$Reader", "nextPlace", "()I"⟩, 9) := ⟨⟨by decide +kernel, by decide +kernel⟩, List.mem_of_getElem? (i := 27) (by decide +kernel), List.mem_of_getElem? (i := 509) (by decide +kernel), List.mem_of_getElem? (i := 510) (by decide +kernel)⟩
theorem lw_p7 : lw_okq (⟨"InkLake$Reader", "fail", "(II)V"⟩, 9) := ⟨⟨by decide +kernel, by decide +kernel⟩, List.mem_of_getElem? (i := 27) (by decide +kernel), List.mem_of_getElem? (i := 513) (by decide +kernel), List.mem_of_getElem? (i := 514) (by decide +kernel)⟩
theorem lw_p8 : lw_okq (⟨"InkLake$Reader", "readNumber", "(II)I"⟩, 9) := ⟨⟨by decide +kernel, by decide +kernel⟩, List.mem_of_getElem? (i := 27) (by decide +kernel), List.mem_of_getElem? (i := 517) (by decide +kernel), List.mem_of_getElem? (i := 518) (by decide +kernel)⟩
theorem lw_p9 : lw_okq (⟨"InkLake$Reader", "nextSize", "()I"⟩, 9) := ⟨⟨by decide +kernel, by decide +kernel⟩, List.mem_of_getElem? (i := 27) (by decide +kernel), List.mem_of_getElem? (i := 521) (by decide +kernel), List.mem_of_getElem? (i := 522) (by decide +kernel)⟩
theorem lw_p10 : lw_okq (⟨"InkLake$Reader", "readBrook", "(LInkLake$Shore;)V"⟩, 9) := ⟨⟨by decide +kernel, by decide +kernel⟩, List.mem_of_getElem? (i := 27) (by decide +kernel), List.mem_of_getElem? (i := 536) (by decide +kernel), List.mem_of_getElem? (i := 537) (by decide +kernel)⟩
theorem lw_p11 : lw_okq (⟨"InkLake$Reader", "giveName", "(LInkLake$Shore;I)I"⟩, 9) := ⟨⟨by decide +kernel, by decide +kernel⟩, List.mem_of_getElem? (i := 27) (by decide +kernel), List.mem_of_getElem? (i := 540) (by decide +kernel), List.mem_of_getElem? (i := 541) (by decide +kernel)⟩
theorem lw_p12 : lw_okq (⟨"InkLake$Reader", "readName", "()V"⟩, 9) := ⟨⟨by decide +kernel, by decide +kernel⟩, List.mem_of_getElem? (i := 27) (by decide +kernel), List.mem_of_getElem? (i := 547) (by decide +kernel), List.mem_of_getElem? (i := 548) (by decide +kernel)⟩
theorem lw_p13 : lw_okq (⟨"InkLake$Reader", "readVillage", "(LInkLake$Shore;)V"⟩, 9) := ⟨⟨by decide +kernel, by decide +kernel⟩, List.mem_of_getElem? (i := 27) (by decide +kernel), List.mem_of_getElem? (i := 563) (by decide +kernel), List.mem_of_getElem? (i := 564) (by decide +kernel)⟩
theorem lw_p14 : lw_okq (⟨"InkLake$Reader", "readDeed", "(LInkLake$Shore;)V"⟩, 9) := ⟨⟨by decide +kernel, by decide +kernel⟩, List.mem_of_getElem? (i := 27) (by decide +kernel), List.mem_of_getElem? (i := 567) (by decide +kernel), List.mem_of_getElem? (i := 568) (by decide +kernel)⟩
theorem lw_p15 : lw_okq (⟨"InkLake$Reader", "findVillage", "(LInkLake$Shore;)I"⟩, 9) := ⟨⟨by decide +kernel, by decide +kernel⟩, List.mem_of_getElem? (i := 27) (by decide +kernel), List.mem_of_getElem? (i := 571) (by decide +kernel), List.mem_of_getElem? (i := 572) (by decide +kernel)⟩
def lw_privs_1 : List (MethodName × Nat) := [(⟨"InkLake", "refuse", "(I)I"⟩, 18), (⟨"InkLake", "putNumber", "(I)V"⟩, 18), (⟨"InkLake", "takeTape", "()I"⟩, 18), (⟨"InkLake$Marks", "put", "(III)V"⟩, 4), (⟨"InkLake$Reader", "need", "(I)V"⟩, 9), (⟨"InkLake$Reader", "next", "()I"⟩, 9), (⟨"InkLake$Reader", "nextPlace", "()I"⟩, 9), (⟨"InkLake$Reader", "fail", "(II)V"⟩, 9), (⟨"InkLake$Reader", "readNumber", "(II)I"⟩, 9), (⟨"InkLake$Reader", "nextSize", "()I"⟩, 9), (⟨"InkLake$Reader", "readBrook", "(LInkLake$Shore;)V"⟩, 9), (⟨"InkLake$Reader", "giveName", "(LInkLake$Shore;I)I"⟩, 9), (⟨"InkLake$Reader", "readName", "()V"⟩, 9), (⟨"InkLake$Reader", "readVillage", "(LInkLake$Shore;)V"⟩, 9), (⟨"InkLake$Reader", "readDeed", "(LInkLake$Shore;)V"⟩, 9), (⟨"InkLake$Reader", "findVillage", "(LInkLake$Shore;)I"⟩, 9)]
theorem lw_r1 : ∀ q ∈ lw_privs_1, lw_okq q := List.forall_mem_cons.mpr ⟨lw_p0, List.forall_mem_cons.mpr ⟨lw_p1, List.forall_mem_cons.mpr ⟨lw_p2, List.forall_mem_cons.mpr ⟨lw_p3, List.forall_mem_cons.mpr ⟨lw_p4, List.forall_mem_cons.mpr ⟨lw_p5, List.forall_mem_cons.mpr ⟨lw_p6, List.forall_mem_cons.mpr ⟨lw_p7, List.forall_mem_cons.mpr ⟨lw_p8, List.forall_mem_cons.mpr ⟨lw_p9, List.forall_mem_cons.mpr ⟨lw_p10, List.forall_mem_cons.mpr ⟨lw_p11, List.forall_mem_cons.mpr ⟨lw_p12, List.forall_mem_cons.mpr ⟨lw_p13, List.forall_mem_cons.mpr ⟨lw_p14, List.forall_mem_cons.mpr ⟨lw_p15, fun _ h => absurd h List.not_mem_nil⟩⟩⟩⟩⟩⟩⟩⟩⟩⟩⟩⟩⟩⟩⟩⟩
theorem lw_p16 : lw_okq (⟨"InkLake$Reader", "readRule", "(LInkLake$Sums;I)V"⟩, 9) := ⟨⟨by decide +kernel, by decide +kernel⟩, List.mem_of_getElem? (i := 27) (by decide +kernel), List.mem_of_getElem? (i := 576) (by decide +kernel), List.mem_of_getElem? (i := 577) (by decide +kernel)⟩
theorem lw_p17 : lw_okq (⟨"InkLake$Reader", "readTest", "()V"⟩, 9) := ⟨⟨by decide +kernel, by decide +kernel⟩, List.mem_of_getElem? (i := 27) (by decide +kernel), List.mem_of_getElem? (i := 584) (by decide +kernel), List.mem_of_getElem? (i := 585) (by decide +kernel)⟩
theorem lw_p18 : lw_okq (⟨"InkLake$Reader", "readBoth", "()V"⟩, 9) := ⟨⟨by decide +kernel, by decide +kernel⟩, List.mem_of_getElem? (i := 27) (by decide +kernel), List.mem_of_getElem? (i := 588) (by decide +kernel), List.mem_of_getElem? (i := 589) (by decide +kernel)⟩
theorem lw_p19 : lw_okq (⟨"InkLake$Reader", "readFact", "()V"⟩, 9) := ⟨⟨by decide +kernel, by decide +kernel⟩, List.mem_of_getElem? (i := 27) (by decide +kernel), List.mem_of_getElem? (i := 592) (by decide +kernel), List.mem_of_getElem? (i := 593) (by decide +kernel)⟩
theorem lw_p20 : lw_okq (⟨"InkLake$Reader", "opens", "()Z"⟩, 9) := ⟨⟨by decide +kernel, by decide +kernel⟩, List.mem_of_getElem? (i := 27) (by decide +kernel), List.mem_of_getElem? (i := 596) (by decide +kernel), List.mem_of_getElem? (i := 597) (by decide +kernel)⟩
theorem lw_p21 : lw_okq (⟨"InkLake$Reader", "readSum", "()V"⟩, 9) := ⟨⟨by decide +kernel, by decide +kernel⟩, List.mem_of_getElem? (i := 27) (by decide +kernel), List.mem_of_getElem? (i := 604) (by decide +kernel), List.mem_of_getElem? (i := 605) (by decide +kernel)⟩
theorem lw_p22 : lw_okq (⟨"InkLake$Reader", "readProduct", "()V"⟩, 9) := ⟨⟨by decide +kernel, by decide +kernel⟩, List.mem_of_getElem? (i := 27) (by decide +kernel), List.mem_of_getElem? (i := 608) (by decide +kernel), List.mem_of_getElem? (i := 609) (by decide +kernel)⟩
theorem lw_p23 : lw_okq (⟨"InkLake$Reader", "readPart", "()V"⟩, 9) := ⟨⟨by decide +kernel, by decide +kernel⟩, List.mem_of_getElem? (i := 27) (by decide +kernel), List.mem_of_getElem? (i := 612) (by decide +kernel), List.mem_of_getElem? (i := 613) (by decide +kernel)⟩
theorem lw_p24 : lw_okq (⟨"InkLake$Reader", "readSums", "(I)V"⟩, 9) := ⟨⟨by decide +kernel, by decide +kernel⟩, List.mem_of_getElem? (i := 27) (by decide +kernel), List.mem_of_getElem? (i := 616) (by decide +kernel), List.mem_of_getElem? (i := 617) (by decide +kernel)⟩
theorem lw_p25 : lw_okq (⟨"InkLake$Reader", "isPart", "(I)Z"⟩, 9) := ⟨⟨by decide +kernel, by decide +kernel⟩, List.mem_of_getElem? (i := 27) (by decide +kernel), List.mem_of_getElem? (i := 620) (by decide +kernel), List.mem_of_getElem? (i := 621) (by decide +kernel)⟩
theorem lw_p26 : lw_okq (⟨"InkLake", "isDeed", "(I)Z"⟩, 18) := ⟨⟨by decide +kernel, by decide +kernel⟩, List.mem_of_getElem? (i := 19) (by decide +kernel), List.mem_of_getElem? (i := 672) (by decide +kernel), List.mem_of_getElem? (i := 673) (by decide +kernel)⟩
theorem lw_p27 : lw_okq (⟨"InkLake$Rules", "partOf", "(ILInkLake$Lake;I)I"⟩, 3) := ⟨⟨by decide +kernel, by decide +kernel⟩, List.mem_of_getElem? (i := 259) (by decide +kernel), List.mem_of_getElem? (i := 704) (by decide +kernel), List.mem_of_getElem? (i := 705) (by decide +kernel)⟩
theorem lw_p28 : lw_okq (⟨"InkLake", "seasonsAhead", "()I"⟩, 18) := ⟨⟨by decide +kernel, by decide +kernel⟩, List.mem_of_getElem? (i := 19) (by decide +kernel), List.mem_of_getElem? (i := 726) (by decide +kernel), List.mem_of_getElem? (i := 727) (by decide +kernel)⟩
theorem lw_p29 : lw_okq (⟨"InkLake$Rules", "fadedBy", "(LInkLake$Lake;I)I"⟩, 3) := ⟨⟨by decide +kernel, by decide +kernel⟩, List.mem_of_getElem? (i := 259) (by decide +kernel), List.mem_of_getElem? (i := 746) (by decide +kernel), List.mem_of_getElem? (i := 747) (by decide +kernel)⟩
theorem lw_p30 : lw_okq (⟨"InkLake", "chooseFrom", "(I)V"⟩, 18) := ⟨⟨by decide +kernel, by decide +kernel⟩, List.mem_of_getElem? (i := 19) (by decide +kernel), List.mem_of_getElem? (i := 775) (by decide +kernel), List.mem_of_getElem? (i := 776) (by decide +kernel)⟩
theorem lw_p31 : lw_okq (⟨"InkLake", "tellsOutflow", "(II)Z"⟩, 18) := ⟨⟨by decide +kernel, by decide +kernel⟩, List.mem_of_getElem? (i := 19) (by decide +kernel), List.mem_of_getElem? (i := 810) (by decide +kernel), List.mem_of_getElem? (i := 811) (by decide +kernel)⟩
def lw_privs_2 : List (MethodName × Nat) := [(⟨"InkLake$Reader", "readRule", "(LInkLake$Sums;I)V"⟩, 9), (⟨"InkLake$Reader", "readTest", "()V"⟩, 9), (⟨"InkLake$Reader", "readBoth", "()V"⟩, 9), (⟨"InkLake$Reader", "readFact", "()V"⟩, 9), (⟨"InkLake$Reader", "opens", "()Z"⟩, 9), (⟨"InkLake$Reader", "readSum", "()V"⟩, 9), (⟨"InkLake$Reader", "readProduct", "()V"⟩, 9), (⟨"InkLake$Reader", "readPart", "()V"⟩, 9), (⟨"InkLake$Reader", "readSums", "(I)V"⟩, 9), (⟨"InkLake$Reader", "isPart", "(I)Z"⟩, 9), (⟨"InkLake", "isDeed", "(I)Z"⟩, 18), (⟨"InkLake$Rules", "partOf", "(ILInkLake$Lake;I)I"⟩, 3), (⟨"InkLake", "seasonsAhead", "()I"⟩, 18), (⟨"InkLake$Rules", "fadedBy", "(LInkLake$Lake;I)I"⟩, 3), (⟨"InkLake", "chooseFrom", "(I)V"⟩, 18), (⟨"InkLake", "tellsOutflow", "(II)Z"⟩, 18)]
theorem lw_r2 : ∀ q ∈ lw_privs_2, lw_okq q := List.forall_mem_cons.mpr ⟨lw_p16, List.forall_mem_cons.mpr ⟨lw_p17, List.forall_mem_cons.mpr ⟨lw_p18, List.forall_mem_cons.mpr ⟨lw_p19, List.forall_mem_cons.mpr ⟨lw_p20, List.forall_mem_cons.mpr ⟨lw_p21, List.forall_mem_cons.mpr ⟨lw_p22, List.forall_mem_cons.mpr ⟨lw_p23, List.forall_mem_cons.mpr ⟨lw_p24, List.forall_mem_cons.mpr ⟨lw_p25, List.forall_mem_cons.mpr ⟨lw_p26, List.forall_mem_cons.mpr ⟨lw_p27, List.forall_mem_cons.mpr ⟨lw_p28, List.forall_mem_cons.mpr ⟨lw_p29, List.forall_mem_cons.mpr ⟨lw_p30, List.forall_mem_cons.mpr ⟨lw_p31, fun _ h => absurd h List.not_mem_nil⟩⟩⟩⟩⟩⟩⟩⟩⟩⟩⟩⟩⟩⟩⟩⟩
theorem lw_p32 : lw_okq (⟨"InkLake", "pairAt", "(I)I"⟩, 18) := ⟨⟨by decide +kernel, by decide +kernel⟩, List.mem_of_getElem? (i := 19) (by decide +kernel), List.mem_of_getElem? (i := 815) (by decide +kernel), List.mem_of_getElem? (i := 816) (by decide +kernel)⟩
theorem lw_p33 : lw_okq (⟨"InkLake", "keep", "(II)V"⟩, 18) := ⟨⟨by decide +kernel, by decide +kernel⟩, List.mem_of_getElem? (i := 19) (by decide +kernel), List.mem_of_getElem? (i := 845) (by decide +kernel), List.mem_of_getElem? (i := 846) (by decide +kernel)⟩
theorem lw_p34 : lw_okq (⟨"InkLake", "canPass", "(I)Z"⟩, 18) := ⟨⟨by decide +kernel, by decide +kernel⟩, List.mem_of_getElem? (i := 19) (by decide +kernel), List.mem_of_getElem? (i := 857) (by decide +kernel), List.mem_of_getElem? (i := 858) (by decide +kernel)⟩
theorem lw_p35 : lw_okq (⟨"InkLake", "drawDryBrooks", "()I"⟩, 18) := ⟨⟨by decide +kernel, by decide +kernel⟩, List.mem_of_getElem? (i := 19) (by decide +kernel), List.mem_of_getElem? (i := 865) (by decide +kernel), List.mem_of_getElem? (i := 866) (by decide +kernel)⟩
theorem lw_p36 : lw_okq (⟨"InkLake", "drawOfHundred", "()I"⟩, 18) := ⟨⟨by decide +kernel, by decide +kernel⟩, List.mem_of_getElem? (i := 19) (by decide +kernel), List.mem_of_getElem? (i := 869) (by decide +kernel), List.mem_of_getElem? (i := 870) (by decide +kernel)⟩
theorem lw_p37 : lw_okq (⟨"InkLake", "answerTest", "(I)J"⟩, 18) := ⟨⟨by decide +kernel, by decide +kernel⟩, List.mem_of_getElem? (i := 19) (by decide +kernel), List.mem_of_getElem? (i := 900) (by decide +kernel), List.mem_of_getElem? (i := 901) (by decide +kernel)⟩
theorem lw_p38 : lw_okq (⟨"InkLake", "reckonAsked", "(I)I"⟩, 18) := ⟨⟨by decide +kernel, by decide +kernel⟩, List.mem_of_getElem? (i := 19) (by decide +kernel), List.mem_of_getElem? (i := 904) (by decide +kernel), List.mem_of_getElem? (i := 905) (by decide +kernel)⟩
theorem lw_p39 : lw_okq (⟨"InkLake", "answerSum", "(I)J"⟩, 18) := ⟨⟨by decide +kernel, by decide +kernel⟩, List.mem_of_getElem? (i := 19) (by decide +kernel), List.mem_of_getElem? (i := 909) (by decide +kernel), List.mem_of_getElem? (i := 910) (by decide +kernel)⟩
theorem lw_p40 : lw_okq (⟨"InkLake", "putPair", "(I)V"⟩, 18) := ⟨⟨by decide +kernel, by decide +kernel⟩, List.mem_of_getElem? (i := 19) (by decide +kernel), List.mem_of_getElem? (i := 917) (by decide +kernel), List.mem_of_getElem? (i := 918) (by decide +kernel)⟩
theorem lw_p41 : lw_okq (⟨"InkLake", "putOctet", "(I)V"⟩, 18) := ⟨⟨by decide +kernel, by decide +kernel⟩, List.mem_of_getElem? (i := 19) (by decide +kernel), List.mem_of_getElem? (i := 921) (by decide +kernel), List.mem_of_getElem? (i := 922) (by decide +kernel)⟩
theorem lw_p42 : lw_okq (⟨"InkLake", "isImage", "(I)Z"⟩, 18) := ⟨⟨by decide +kernel, by decide +kernel⟩, List.mem_of_getElem? (i := 19) (by decide +kernel), List.mem_of_getElem? (i := 936) (by decide +kernel), List.mem_of_getElem? (i := 937) (by decide +kernel)⟩
theorem lw_p43 : lw_okq (⟨"InkLake", "isDeedImage", "(I)Z"⟩, 18) := ⟨⟨by decide +kernel, by decide +kernel⟩, List.mem_of_getElem? (i := 19) (by decide +kernel), List.mem_of_getElem? (i := 940) (by decide +kernel), List.mem_of_getElem? (i := 941) (by decide +kernel)⟩
theorem lw_p44 : lw_okq (⟨"InkLakeModel", "lakeTold", "()V"⟩, 109) := ⟨⟨by decide +kernel, by decide +kernel⟩, List.mem_of_getElem? (i := 948) (by decide +kernel), List.mem_of_getElem? (i := 1296) (by decide +kernel), List.mem_of_getElem? (i := 1297) (by decide +kernel)⟩
theorem lw_p45 : lw_okq (⟨"InkLakeModel", "asks", "([C)V"⟩, 109) := ⟨⟨by decide +kernel, by decide +kernel⟩, List.mem_of_getElem? (i := 948) (by decide +kernel), List.mem_of_getElem? (i := 1300) (by decide +kernel), List.mem_of_getElem? (i := 1301) (by decide +kernel)⟩
theorem lw_p46 : lw_okq (⟨"InkLakeModel", "takes", "([C)Z"⟩, 109) := ⟨⟨by decide +kernel, by decide +kernel⟩, List.mem_of_getElem? (i := 948) (by decide +kernel), List.mem_of_getElem? (i := 1304) (by decide +kernel), List.mem_of_getElem? (i := 1305) (by decide +kernel)⟩
theorem lw_p47 : lw_okq (⟨"InkLakeModel", "isHere", "([C)Z"⟩, 109) := ⟨⟨by decide +kernel, by decide +kernel⟩, List.mem_of_getElem? (i := 948) (by decide +kernel), List.mem_of_getElem? (i := 1308) (by decide +kernel), List.mem_of_getElem? (i := 1309) (by decide +kernel)⟩
def lw_privs_3 : List (MethodName × Nat) := [(⟨"InkLake", "pairAt", "(I)I"⟩, 18), (⟨"InkLake", "keep", "(II)V"⟩, 18), (⟨"InkLake", "canPass", "(I)Z"⟩, 18), (⟨"InkLake", "drawDryBrooks", "()I"⟩, 18), (⟨"InkLake", "drawOfHundred", "()I"⟩, 18), (⟨"InkLake", "answerTest", "(I)J"⟩, 18), (⟨"InkLake", "reckonAsked", "(I)I"⟩, 18), (⟨"InkLake", "answerSum", "(I)J"⟩, 18), (⟨"InkLake", "putPair", "(I)V"⟩, 18), (⟨"InkLake", "putOctet", "(I)V"⟩, 18), (⟨"InkLake", "isImage", "(I)Z"⟩, 18), (⟨"InkLake", "isDeedImage", "(I)Z"⟩, 18), (⟨"InkLakeModel", "lakeTold", "()V"⟩, 109), (⟨"InkLakeModel", "asks", "([C)V"⟩, 109), (⟨"InkLakeModel", "takes", "([C)Z"⟩, 109), (⟨"InkLakeModel", "isHere", "([C)Z"⟩, 109)]
theorem lw_r3 : ∀ q ∈ lw_privs_3, lw_okq q := List.forall_mem_cons.mpr ⟨lw_p32, List.forall_mem_cons.mpr ⟨lw_p33, List.forall_mem_cons.mpr ⟨lw_p34, List.forall_mem_cons.mpr ⟨lw_p35, List.forall_mem_cons.mpr ⟨lw_p36, List.forall_mem_cons.mpr ⟨lw_p37, List.forall_mem_cons.mpr ⟨lw_p38, List.forall_mem_cons.mpr ⟨lw_p39, List.forall_mem_cons.mpr ⟨lw_p40, List.forall_mem_cons.mpr ⟨lw_p41, List.forall_mem_cons.mpr ⟨lw_p42, List.forall_mem_cons.mpr ⟨lw_p43, List.forall_mem_cons.mpr ⟨lw_p44, List.forall_mem_cons.mpr ⟨lw_p45, List.forall_mem_cons.mpr ⟨lw_p46, List.forall_mem_cons.mpr ⟨lw_p47, fun _ h => absurd h List.not_mem_nil⟩⟩⟩⟩⟩⟩⟩⟩⟩⟩⟩⟩⟩⟩⟩⟩
theorem lw_p48 : lw_okq (⟨"InkLakeModel", "look", "()I"⟩, 109) := ⟨⟨by decide +kernel, by decide +kernel⟩, List.mem_of_getElem? (i := 948) (by decide +kernel), List.mem_of_getElem? (i := 1312) (by decide +kernel), List.mem_of_getElem? (i := 1313) (by decide +kernel)⟩
theorem lw_p49 : lw_okq (⟨"InkLakeModel", "fail", "(II)V"⟩, 109) := ⟨⟨by decide +kernel, by decide +kernel⟩, List.mem_of_getElem? (i := 948) (by decide +kernel), List.mem_of_getElem? (i := 1319) (by decide +kernel), List.mem_of_getElem? (i := 1320) (by decide +kernel)⟩
theorem lw_p50 : lw_okq (⟨"InkLakeModel", "number", "(II)I"⟩, 109) := ⟨⟨by decide +kernel, by decide +kernel⟩, List.mem_of_getElem? (i := 948) (by decide +kernel), List.mem_of_getElem? (i := 1323) (by decide +kernel), List.mem_of_getElem? (i := 1324) (by decide +kernel)⟩
theorem lw_p51 : lw_okq (⟨"InkLakeModel", "asksSign", "(I)V"⟩, 109) := ⟨⟨by decide +kernel, by decide +kernel⟩, List.mem_of_getElem? (i := 948) (by decide +kernel), List.mem_of_getElem? (i := 1333) (by decide +kernel), List.mem_of_getElem? (i := 1334) (by decide +kernel)⟩
theorem lw_p52 : lw_okq (⟨"InkLakeModel", "takesSign", "(I)Z"⟩, 109) := ⟨⟨by decide +kernel, by decide +kernel⟩, List.mem_of_getElem? (i := 948) (by decide +kernel), List.mem_of_getElem? (i := 1337) (by decide +kernel), List.mem_of_getElem? (i := 1338) (by decide +kernel)⟩
theorem lw_p53 : lw_okq (⟨"InkLakeModel", "statementTold", "()V"⟩, 109) := ⟨⟨by decide +kernel, by decide +kernel⟩, List.mem_of_getElem? (i := 948) (by decide +kernel), List.mem_of_getElem? (i := 1341) (by decide +kernel), List.mem_of_getElem? (i := 1342) (by decide +kernel)⟩
theorem lw_p54 : lw_okq (⟨"InkLakeModel", "brookTold", "(I)V"⟩, 109) := ⟨⟨by decide +kernel, by decide +kernel⟩, List.mem_of_getElem? (i := 948) (by decide +kernel), List.mem_of_getElem? (i := 1345) (by decide +kernel), List.mem_of_getElem? (i := 1346) (by decide +kernel)⟩
theorem lw_p55 : lw_okq (⟨"InkLakeModel", "isFull", "(III)Z"⟩, 109) := ⟨⟨by decide +kernel, by decide +kernel⟩, List.mem_of_getElem? (i := 948) (by decide +kernel), List.mem_of_getElem? (i := 1349) (by decide +kernel), List.mem_of_getElem? (i := 1350) (by decide +kernel)⟩
theorem lw_p56 : lw_okq (⟨"InkLakeModel", "newName", "()J"⟩, 109) := ⟨⟨by decide +kernel, by decide +kernel⟩, List.mem_of_getElem? (i := 948) (by decide +kernel), List.mem_of_getElem? (i := 1353) (by decide +kernel), List.mem_of_getElem? (i := 1354) (by decide +kernel)⟩
theorem lw_p57 : lw_okq (⟨"InkLakeModel", "name", "()J"⟩, 109) := ⟨⟨by decide +kernel, by decide +kernel⟩, List.mem_of_getElem? (i := 948) (by decide +kernel), List.mem_of_getElem? (i := 1357) (by decide +kernel), List.mem_of_getElem? (i := 1358) (by decide +kernel)⟩
theorem lw_p58 : lw_okq (⟨"InkLakeModel", "isOwnHere", "()Z"⟩, 109) := ⟨⟨by decide +kernel, by decide +kernel⟩, List.mem_of_getElem? (i := 948) (by decide +kernel), List.mem_of_getElem? (i := 1361) (by decide +kernel), List.mem_of_getElem? (i := 1362) (by decide +kernel)⟩
theorem lw_p59 : lw_okq (⟨"InkLakeModel", "nameOf", "(IJ)I"⟩, 109) := ⟨⟨by decide +kernel, by decide +kernel⟩, List.mem_of_getElem? (i := 948) (by decide +kernel), List.mem_of_getElem? (i := 1367) (by decide +kernel), List.mem_of_getElem? (i := 1368) (by decide +kernel)⟩
theorem lw_p60 : lw_okq (⟨"InkLakeModel", "adds", "(IJ)I"⟩, 109) := ⟨⟨by decide +kernel, by decide +kernel⟩, List.mem_of_getElem? (i := 948) (by decide +kernel), List.mem_of_getElem? (i := 1371) (by decide +kernel), List.mem_of_getElem? (i := 1372) (by decide +kernel)⟩
theorem lw_p61 : lw_okq (⟨"InkLakeModel", "villageTold", "(I)V"⟩, 109) := ⟨⟨by decide +kernel, by decide +kernel⟩, List.mem_of_getElem? (i := 948) (by decide +kernel), List.mem_of_getElem? (i := 1375) (by decide +kernel), List.mem_of_getElem? (i := 1376) (by decide +kernel)⟩
theorem lw_p62 : lw_okq (⟨"InkLakeModel", "deedTold", "(I)V"⟩, 109) := ⟨⟨by decide +kernel, by decide +kernel⟩, List.mem_of_getElem? (i := 948) (by decide +kernel), List.mem_of_getElem? (i := 1379) (by decide +kernel), List.mem_of_getElem? (i := 1380) (by decide +kernel)⟩
theorem lw_p63 : lw_okq (⟨"InkLakeModel", "codesTold", "(II)V"⟩, 109) := ⟨⟨by decide +kernel, by decide +kernel⟩, List.mem_of_getElem? (i := 948) (by decide +kernel), List.mem_of_getElem? (i := 1383) (by decide +kernel), List.mem_of_getElem? (i := 1384) (by decide +kernel)⟩
def lw_privs_4 : List (MethodName × Nat) := [(⟨"InkLakeModel", "look", "()I"⟩, 109), (⟨"InkLakeModel", "fail", "(II)V"⟩, 109), (⟨"InkLakeModel", "number", "(II)I"⟩, 109), (⟨"InkLakeModel", "asksSign", "(I)V"⟩, 109), (⟨"InkLakeModel", "takesSign", "(I)Z"⟩, 109), (⟨"InkLakeModel", "statementTold", "()V"⟩, 109), (⟨"InkLakeModel", "brookTold", "(I)V"⟩, 109), (⟨"InkLakeModel", "isFull", "(III)Z"⟩, 109), (⟨"InkLakeModel", "newName", "()J"⟩, 109), (⟨"InkLakeModel", "name", "()J"⟩, 109), (⟨"InkLakeModel", "isOwnHere", "()Z"⟩, 109), (⟨"InkLakeModel", "nameOf", "(IJ)I"⟩, 109), (⟨"InkLakeModel", "adds", "(IJ)I"⟩, 109), (⟨"InkLakeModel", "villageTold", "(I)V"⟩, 109), (⟨"InkLakeModel", "deedTold", "(I)V"⟩, 109), (⟨"InkLakeModel", "codesTold", "(II)V"⟩, 109)]
theorem lw_r4 : ∀ q ∈ lw_privs_4, lw_okq q := List.forall_mem_cons.mpr ⟨lw_p48, List.forall_mem_cons.mpr ⟨lw_p49, List.forall_mem_cons.mpr ⟨lw_p50, List.forall_mem_cons.mpr ⟨lw_p51, List.forall_mem_cons.mpr ⟨lw_p52, List.forall_mem_cons.mpr ⟨lw_p53, List.forall_mem_cons.mpr ⟨lw_p54, List.forall_mem_cons.mpr ⟨lw_p55, List.forall_mem_cons.mpr ⟨lw_p56, List.forall_mem_cons.mpr ⟨lw_p57, List.forall_mem_cons.mpr ⟨lw_p58, List.forall_mem_cons.mpr ⟨lw_p59, List.forall_mem_cons.mpr ⟨lw_p60, List.forall_mem_cons.mpr ⟨lw_p61, List.forall_mem_cons.mpr ⟨lw_p62, List.forall_mem_cons.mpr ⟨lw_p63, fun _ h => absurd h List.not_mem_nil⟩⟩⟩⟩⟩⟩⟩⟩⟩⟩⟩⟩⟩⟩⟩⟩
theorem lw_p64 : lw_okq (⟨"InkLakeModel", "qTest", "()V"⟩, 109) := ⟨⟨by decide +kernel, by decide +kernel⟩, List.mem_of_getElem? (i := 948) (by decide +kernel), List.mem_of_getElem? (i := 1387) (by decide +kernel), List.mem_of_getElem? (i := 1388) (by decide +kernel)⟩
theorem lw_p65 : lw_okq (⟨"InkLakeModel", "qOpens", "(II)V"⟩, 109) := ⟨⟨by decide +kernel, by decide +kernel⟩, List.mem_of_getElem? (i := 948) (by decide +kernel), List.mem_of_getElem? (i := 1391) (by decide +kernel), List.mem_of_getElem? (i := 1392) (by decide +kernel)⟩
theorem lw_p66 : lw_okq (⟨"InkLakeModel", "qFact", "()V"⟩, 109) := ⟨⟨by decide +kernel, by decide +kernel⟩, List.mem_of_getElem? (i := 948) (by decide +kernel), List.mem_of_getElem? (i := 1395) (by decide +kernel), List.mem_of_getElem? (i := 1396) (by decide +kernel)⟩
theorem lw_p67 : lw_okq (⟨"InkLakeModel", "qCode", "(I)V"⟩, 109) := ⟨⟨by decide +kernel, by decide +kernel⟩, List.mem_of_getElem? (i := 948) (by decide +kernel), List.mem_of_getElem? (i := 1399) (by decide +kernel), List.mem_of_getElem? (i := 1400) (by decide +kernel)⟩
theorem lw_p68 : lw_okq (⟨"InkLakeModel", "qSums", "()V"⟩, 109) := ⟨⟨by decide +kernel, by decide +kernel⟩, List.mem_of_getElem? (i := 948) (by decide +kernel), List.mem_of_getElem? (i := 1403) (by decide +kernel), List.mem_of_getElem? (i := 1404) (by decide +kernel)⟩
theorem lw_p69 : lw_okq (⟨"InkLakeModel", "qPartTold", "()V"⟩, 109) := ⟨⟨by decide +kernel, by decide +kernel⟩, List.mem_of_getElem? (i := 948) (by decide +kernel), List.mem_of_getElem? (i := 1407) (by decide +kernel), List.mem_of_getElem? (i := 1408) (by decide +kernel)⟩
theorem lw_p70 : lw_okq (⟨"InkLakeModel", "qWordOf", "(II)I"⟩, 109) := ⟨⟨by decide +kernel, by decide +kernel⟩, List.mem_of_getElem? (i := 948) (by decide +kernel), List.mem_of_getElem? (i := 1411) (by decide +kernel), List.mem_of_getElem? (i := 1412) (by decide +kernel)⟩
theorem lw_p71 : lw_okq (⟨"InkLakeModel", "qWordHere", "()I"⟩, 109) := ⟨⟨by decide +kernel, by decide +kernel⟩, List.mem_of_getElem? (i := 948) (by decide +kernel), List.mem_of_getElem? (i := 1415) (by decide +kernel), List.mem_of_getElem? (i := 1416) (by decide +kernel)⟩
theorem lw_p72 : lw_okq (⟨"InkLakeModel", "isAllowed", "(I)Z"⟩, 109) := ⟨⟨by decide +kernel, by decide +kernel⟩, List.mem_of_getElem? (i := 948) (by decide +kernel), List.mem_of_getElem? (i := 1419) (by decide +kernel), List.mem_of_getElem? (i := 1420) (by decide +kernel)⟩
theorem lw_p73 : lw_okq (⟨"InkLakeModel", "qAsksWord", "(I)V"⟩, 109) := ⟨⟨by decide +kernel, by decide +kernel⟩, List.mem_of_getElem? (i := 948) (by decide +kernel), List.mem_of_getElem? (i := 1423) (by decide +kernel), List.mem_of_getElem? (i := 1424) (by decide +kernel)⟩
theorem lw_p74 : lw_okq (⟨"InkLakeModel", "qEndsPart", "()V"⟩, 109) := ⟨⟨by decide +kernel, by decide +kernel⟩, List.mem_of_getElem? (i := 948) (by decide +kernel), List.mem_of_getElem? (i := 1427) (by decide +kernel), List.mem_of_getElem? (i := 1428) (by decide +kernel)⟩
theorem lw_p75 : lw_okq (⟨"InkLakeModel", "qDrops", "()V"⟩, 109) := ⟨⟨by decide +kernel, by decide +kernel⟩, List.mem_of_getElem? (i := 948) (by decide +kernel), List.mem_of_getElem? (i := 1431) (by decide +kernel), List.mem_of_getElem? (i := 1432) (by decide +kernel)⟩
theorem lw_p76 : lw_okq (⟨"InkLakeModel", "qGoesOn", "()Z"⟩, 109) := ⟨⟨by decide +kernel, by decide +kernel⟩, List.mem_of_getElem? (i := 948) (by decide +kernel), List.mem_of_getElem? (i := 1435) (by decide +kernel), List.mem_of_getElem? (i := 1436) (by decide +kernel)⟩
theorem lw_p77 : lw_okq (⟨"InkLakeModel", "qBracket", "()I"⟩, 109) := ⟨⟨by decide +kernel, by decide +kernel⟩, List.mem_of_getElem? (i := 948) (by decide +kernel), List.mem_of_getElem? (i := 1439) (by decide +kernel), List.mem_of_getElem? (i := 1440) (by decide +kernel)⟩
theorem lw_p78 : lw_okq (⟨"InkLakeModel", "qDropsToBracket", "()V"⟩, 109) := ⟨⟨by decide +kernel, by decide +kernel⟩, List.mem_of_getElem? (i := 948) (by decide +kernel), List.mem_of_getElem? (i := 1446) (by decide +kernel), List.mem_of_getElem? (i := 1447) (by decide +kernel)⟩
theorem lw_p79 : lw_okq (⟨"InkLakeModel", "qIsOn", "(I)Z"⟩, 109) := ⟨⟨by decide +kernel, by decide +kernel⟩, List.mem_of_getElem? (i := 948) (by decide +kernel), List.mem_of_getElem? (i := 1450) (by decide +kernel), List.mem_of_getElem? (i := 1451) (by decide +kernel)⟩
def lw_privs_5 : List (MethodName × Nat) := [(⟨"InkLakeModel", "qTest", "()V"⟩, 109), (⟨"InkLakeModel", "qOpens", "(II)V"⟩, 109), (⟨"InkLakeModel", "qFact", "()V"⟩, 109), (⟨"InkLakeModel", "qCode", "(I)V"⟩, 109), (⟨"InkLakeModel", "qSums", "()V"⟩, 109), (⟨"InkLakeModel", "qPartTold", "()V"⟩, 109), (⟨"InkLakeModel", "qWordOf", "(II)I"⟩, 109), (⟨"InkLakeModel", "qWordHere", "()I"⟩, 109), (⟨"InkLakeModel", "isAllowed", "(I)Z"⟩, 109), (⟨"InkLakeModel", "qAsksWord", "(I)V"⟩, 109), (⟨"InkLakeModel", "qEndsPart", "()V"⟩, 109), (⟨"InkLakeModel", "qDrops", "()V"⟩, 109), (⟨"InkLakeModel", "qGoesOn", "()Z"⟩, 109), (⟨"InkLakeModel", "qBracket", "()I"⟩, 109), (⟨"InkLakeModel", "qDropsToBracket", "()V"⟩, 109), (⟨"InkLakeModel", "qIsOn", "(I)Z"⟩, 109)]
theorem lw_r5 : ∀ q ∈ lw_privs_5, lw_okq q := List.forall_mem_cons.mpr ⟨lw_p64, List.forall_mem_cons.mpr ⟨lw_p65, List.forall_mem_cons.mpr ⟨lw_p66, List.forall_mem_cons.mpr ⟨lw_p67, List.forall_mem_cons.mpr ⟨lw_p68, List.forall_mem_cons.mpr ⟨lw_p69, List.forall_mem_cons.mpr ⟨lw_p70, List.forall_mem_cons.mpr ⟨lw_p71, List.forall_mem_cons.mpr ⟨lw_p72, List.forall_mem_cons.mpr ⟨lw_p73, List.forall_mem_cons.mpr ⟨lw_p74, List.forall_mem_cons.mpr ⟨lw_p75, List.forall_mem_cons.mpr ⟨lw_p76, List.forall_mem_cons.mpr ⟨lw_p77, List.forall_mem_cons.mpr ⟨lw_p78, List.forall_mem_cons.mpr ⟨lw_p79, fun _ h => absurd h List.not_mem_nil⟩⟩⟩⟩⟩⟩⟩⟩⟩⟩⟩⟩⟩⟩⟩⟩
theorem lw_p80 : lw_okq (⟨"InkLakeModel", "qDropsNots", "()V"⟩, 109) := ⟨⟨by decide +kernel, by decide +kernel⟩, List.mem_of_getElem? (i := 948) (by decide +kernel), List.mem_of_getElem? (i := 1454) (by decide +kernel), List.mem_of_getElem? (i := 1455) (by decide +kernel)⟩
theorem lw_p81 : lw_okq (⟨"InkLakeModel", "qGoesOnTest", "()Z"⟩, 109) := ⟨⟨by decide +kernel, by decide +kernel⟩, List.mem_of_getElem? (i := 948) (by decide +kernel), List.mem_of_getElem? (i := 1458) (by decide +kernel), List.mem_of_getElem? (i := 1459) (by decide +kernel)⟩
theorem lw_p82 : lw_okq (⟨"InkLakeModel", "qHasSquare", "()Z"⟩, 109) := ⟨⟨by decide +kernel, by decide +kernel⟩, List.mem_of_getElem? (i := 948) (by decide +kernel), List.mem_of_getElem? (i := 1462) (by decide +kernel), List.mem_of_getElem? (i := 1463) (by decide +kernel)⟩
theorem lw_p83 : lw_okq (⟨"InkLakeModel", "stands", "()V"⟩, 109) := ⟨⟨by decide +kernel, by decide +kernel⟩, List.mem_of_getElem? (i := 948) (by decide +kernel), List.mem_of_getElem? (i := 1466) (by decide +kernel), List.mem_of_getElem? (i := 1467) (by decide +kernel)⟩
theorem lw_p84 : lw_okq (⟨"InkLakeModel", "holdsAll", "()I"⟩, 109) := ⟨⟨by decide +kernel, by decide +kernel⟩, List.mem_of_getElem? (i := 948) (by decide +kernel), List.mem_of_getElem? (i := 1478) (by decide +kernel), List.mem_of_getElem? (i := 1479) (by decide +kernel)⟩
theorem lw_p85 : lw_okq (⟨"InkLakeModel", "darkNow", "()I"⟩, 109) := ⟨⟨by decide +kernel, by decide +kernel⟩, List.mem_of_getElem? (i := 948) (by decide +kernel), List.mem_of_getElem? (i := 1482) (by decide +kernel), List.mem_of_getElem? (i := 1483) (by decide +kernel)⟩
theorem lw_p86 : lw_okq (⟨"InkLakeModel", "writtenMany", "()I"⟩, 109) := ⟨⟨by decide +kernel, by decide +kernel⟩, List.mem_of_getElem? (i := 948) (by decide +kernel), List.mem_of_getElem? (i := 1490) (by decide +kernel), List.mem_of_getElem? (i := 1491) (by decide +kernel)⟩
theorem lw_p87 : lw_okq (⟨"InkLakeModel", "deedMany", "()I"⟩, 109) := ⟨⟨by decide +kernel, by decide +kernel⟩, List.mem_of_getElem? (i := 948) (by decide +kernel), List.mem_of_getElem? (i := 1494) (by decide +kernel), List.mem_of_getElem? (i := 1495) (by decide +kernel)⟩
theorem lw_p88 : lw_okq (⟨"InkLakeModel", "isWritten", "(I)Z"⟩, 109) := ⟨⟨by decide +kernel, by decide +kernel⟩, List.mem_of_getElem? (i := 948) (by decide +kernel), List.mem_of_getElem? (i := 1498) (by decide +kernel), List.mem_of_getElem? (i := 1499) (by decide +kernel)⟩
theorem lw_p89 : lw_okq (⟨"InkLakeModel", "readable", "()I"⟩, 109) := ⟨⟨by decide +kernel, by decide +kernel⟩, List.mem_of_getElem? (i := 948) (by decide +kernel), List.mem_of_getElem? (i := 1502) (by decide +kernel), List.mem_of_getElem? (i := 1503) (by decide +kernel)⟩
theorem lw_p90 : lw_okq (⟨"InkLakeModel", "canRead", "(I)Z"⟩, 109) := ⟨⟨by decide +kernel, by decide +kernel⟩, List.mem_of_getElem? (i := 948) (by decide +kernel), List.mem_of_getElem? (i := 1506) (by decide +kernel), List.mem_of_getElem? (i := 1507) (by decide +kernel)⟩
theorem lw_p91 : lw_okq (⟨"InkLakeModel", "inkOf", "(I)I"⟩, 109) := ⟨⟨by decide +kernel, by decide +kernel⟩, List.mem_of_getElem? (i := 948) (by decide +kernel), List.mem_of_getElem? (i := 1510) (by decide +kernel), List.mem_of_getElem? (i := 1511) (by decide +kernel)⟩
theorem lw_p92 : lw_okq (⟨"InkLakeModel", "brookMany", "()I"⟩, 109) := ⟨⟨by decide +kernel, by decide +kernel⟩, List.mem_of_getElem? (i := 948) (by decide +kernel), List.mem_of_getElem? (i := 1533) (by decide +kernel), List.mem_of_getElem? (i := 1534) (by decide +kernel)⟩
theorem lw_p93 : lw_okq (⟨"InkLakeModel", "isDeed", "(I)Z"⟩, 109) := ⟨⟨by decide +kernel, by decide +kernel⟩, List.mem_of_getElem? (i := 948) (by decide +kernel), List.mem_of_getElem? (i := 1541) (by decide +kernel), List.mem_of_getElem? (i := 1542) (by decide +kernel)⟩
theorem lw_p94 : lw_okq (⟨"InkLakeModel", "drawnBy", "(I)I"⟩, 109) := ⟨⟨by decide +kernel, by decide +kernel⟩, List.mem_of_getElem? (i := 948) (by decide +kernel), List.mem_of_getElem? (i := 1545) (by decide +kernel), List.mem_of_getElem? (i := 1546) (by decide +kernel)⟩
theorem lw_p95 : lw_okq (⟨"InkLakeModel", "codesTell", "(II)J"⟩, 109) := ⟨⟨by decide +kernel, by decide +kernel⟩, List.mem_of_getElem? (i := 948) (by decide +kernel), List.mem_of_getElem? (i := 1549) (by decide +kernel), List.mem_of_getElem? (i := 1550) (by decide +kernel)⟩
def lw_privs_6 : List (MethodName × Nat) := [(⟨"InkLakeModel", "qDropsNots", "()V"⟩, 109), (⟨"InkLakeModel", "qGoesOnTest", "()Z"⟩, 109), (⟨"InkLakeModel", "qHasSquare", "()Z"⟩, 109), (⟨"InkLakeModel", "stands", "()V"⟩, 109), (⟨"InkLakeModel", "holdsAll", "()I"⟩, 109), (⟨"InkLakeModel", "darkNow", "()I"⟩, 109), (⟨"InkLakeModel", "writtenMany", "()I"⟩, 109), (⟨"InkLakeModel", "deedMany", "()I"⟩, 109), (⟨"InkLakeModel", "isWritten", "(I)Z"⟩, 109), (⟨"InkLakeModel", "readable", "()I"⟩, 109), (⟨"InkLakeModel", "canRead", "(I)Z"⟩, 109), (⟨"InkLakeModel", "inkOf", "(I)I"⟩, 109), (⟨"InkLakeModel", "brookMany", "()I"⟩, 109), (⟨"InkLakeModel", "isDeed", "(I)Z"⟩, 109), (⟨"InkLakeModel", "drawnBy", "(I)I"⟩, 109), (⟨"InkLakeModel", "codesTell", "(II)J"⟩, 109)]
theorem lw_r6 : ∀ q ∈ lw_privs_6, lw_okq q := List.forall_mem_cons.mpr ⟨lw_p80, List.forall_mem_cons.mpr ⟨lw_p81, List.forall_mem_cons.mpr ⟨lw_p82, List.forall_mem_cons.mpr ⟨lw_p83, List.forall_mem_cons.mpr ⟨lw_p84, List.forall_mem_cons.mpr ⟨lw_p85, List.forall_mem_cons.mpr ⟨lw_p86, List.forall_mem_cons.mpr ⟨lw_p87, List.forall_mem_cons.mpr ⟨lw_p88, List.forall_mem_cons.mpr ⟨lw_p89, List.forall_mem_cons.mpr ⟨lw_p90, List.forall_mem_cons.mpr ⟨lw_p91, List.forall_mem_cons.mpr ⟨lw_p92, List.forall_mem_cons.mpr ⟨lw_p93, List.forall_mem_cons.mpr ⟨lw_p94, List.forall_mem_cons.mpr ⟨lw_p95, fun _ h => absurd h List.not_mem_nil⟩⟩⟩⟩⟩⟩⟩⟩⟩⟩⟩⟩⟩⟩⟩⟩
theorem lw_p96 : lw_okq (⟨"InkLakeModel", "qPuts", "(J)V"⟩, 109) := ⟨⟨by decide +kernel, by decide +kernel⟩, List.mem_of_getElem? (i := 948) (by decide +kernel), List.mem_of_getElem? (i := 1553) (by decide +kernel), List.mem_of_getElem? (i := 1554) (by decide +kernel)⟩
theorem lw_p97 : lw_okq (⟨"InkLakeModel", "qPartOf", "(II)J"⟩, 109) := ⟨⟨by decide +kernel, by decide +kernel⟩, List.mem_of_getElem? (i := 948) (by decide +kernel), List.mem_of_getElem? (i := 1557) (by decide +kernel), List.mem_of_getElem? (i := 1558) (by decide +kernel)⟩
theorem lw_p98 : lw_okq (⟨"InkLakeModel", "ageOf", "(I)I"⟩, 109) := ⟨⟨by decide +kernel, by decide +kernel⟩, List.mem_of_getElem? (i := 948) (by decide +kernel), List.mem_of_getElem? (i := 1561) (by decide +kernel), List.mem_of_getElem? (i := 1562) (by decide +kernel)⟩
theorem lw_p99 : lw_okq (⟨"InkLakeModel", "termOf", "(I)I"⟩, 109) := ⟨⟨by decide +kernel, by decide +kernel⟩, List.mem_of_getElem? (i := 948) (by decide +kernel), List.mem_of_getElem? (i := 1565) (by decide +kernel), List.mem_of_getElem? (i := 1566) (by decide +kernel)⟩
theorem lw_p100 : lw_okq (⟨"InkLakeModel", "qJoins", "(I)V"⟩, 109) := ⟨⟨by decide +kernel, by decide +kernel⟩, List.mem_of_getElem? (i := 948) (by decide +kernel), List.mem_of_getElem? (i := 1569) (by decide +kernel), List.mem_of_getElem? (i := 1570) (by decide +kernel)⟩
theorem lw_p101 : lw_okq (⟨"InkLakeModel", "canBe", "(I)Z"⟩, 109) := ⟨⟨by decide +kernel, by decide +kernel⟩, List.mem_of_getElem? (i := 948) (by decide +kernel), List.mem_of_getElem? (i := 1581) (by decide +kernel), List.mem_of_getElem? (i := 1582) (by decide +kernel)⟩
theorem lw_p102 : lw_okq (⟨"InkLakeModel", "villageMany", "()I"⟩, 109) := ⟨⟨by decide +kernel, by decide +kernel⟩, List.mem_of_getElem? (i := 948) (by decide +kernel), List.mem_of_getElem? (i := 1589) (by decide +kernel), List.mem_of_getElem? (i := 1590) (by decide +kernel)⟩
theorem lw_p103 : lw_okq (⟨"InkLakeModel", "isAhead", "(III)Z"⟩, 109) := ⟨⟨by decide +kernel, by decide +kernel⟩, List.mem_of_getElem? (i := 948) (by decide +kernel), List.mem_of_getElem? (i := 1602) (by decide +kernel), List.mem_of_getElem? (i := 1603) (by decide +kernel)⟩
theorem lw_p104 : lw_okq (⟨"InkLakeModel", "putsAside", "()V"⟩, 109) := ⟨⟨by decide +kernel, by decide +kernel⟩, List.mem_of_getElem? (i := 948) (by decide +kernel), List.mem_of_getElem? (i := 1606) (by decide +kernel), List.mem_of_getElem? (i := 1607) (by decide +kernel)⟩
theorem lw_p105 : lw_okq (⟨"InkLakeModel", "seasonsGo", "(I)V"⟩, 109) := ⟨⟨by decide +kernel, by decide +kernel⟩, List.mem_of_getElem? (i := 948) (by decide +kernel), List.mem_of_getElem? (i := 1610) (by decide +kernel), List.mem_of_getElem? (i := 1611) (by decide +kernel)⟩
theorem lw_p106 : lw_okq (⟨"InkLakeModel", "seasonGoes", "(III)V"⟩, 109) := ⟨⟨by decide +kernel, by decide +kernel⟩, List.mem_of_getElem? (i := 948) (by decide +kernel), List.mem_of_getElem? (i := 1614) (by decide +kernel), List.mem_of_getElem? (i := 1615) (by decide +kernel)⟩
theorem lw_p107 : lw_okq (⟨"InkLakeModel", "takesBack", "()V"⟩, 109) := ⟨⟨by decide +kernel, by decide +kernel⟩, List.mem_of_getElem? (i := 948) (by decide +kernel), List.mem_of_getElem? (i := 1618) (by decide +kernel), List.mem_of_getElem? (i := 1619) (by decide +kernel)⟩
theorem lw_p108 : lw_okq (⟨"InkLakeModel", "finds", "(IZ)V"⟩, 109) := ⟨⟨by decide +kernel, by decide +kernel⟩, List.mem_of_getElem? (i := 948) (by decide +kernel), List.mem_of_getElem? (i := 1630) (by decide +kernel), List.mem_of_getElem? (i := 1631) (by decide +kernel)⟩
theorem lw_p109 : lw_okq (⟨"InkLakeModel", "worthOf", "(I)I"⟩, 109) := ⟨⟨by decide +kernel, by decide +kernel⟩, List.mem_of_getElem? (i := 948) (by decide +kernel), List.mem_of_getElem? (i := 1646) (by decide +kernel), List.mem_of_getElem? (i := 1647) (by decide +kernel)⟩
theorem lw_p110 : lw_okq (⟨"InkLakeModel", "writesAll", "(I)I"⟩, 109) := ⟨⟨by decide +kernel, by decide +kernel⟩, List.mem_of_getElem? (i := 948) (by decide +kernel), List.mem_of_getElem? (i := 1650) (by decide +kernel), List.mem_of_getElem? (i := 1651) (by decide +kernel)⟩
theorem lw_p111 : lw_okq (⟨"InkLakeModel", "writesOne", "(I)I"⟩, 109) := ⟨⟨by decide +kernel, by decide +kernel⟩, List.mem_of_getElem? (i := 948) (by decide +kernel), List.mem_of_getElem? (i := 1654) (by decide +kernel), List.mem_of_getElem? (i := 1655) (by decide +kernel)⟩
def lw_privs_7 : List (MethodName × Nat) := [(⟨"InkLakeModel", "qPuts", "(J)V"⟩, 109), (⟨"InkLakeModel", "qPartOf", "(II)J"⟩, 109), (⟨"InkLakeModel", "ageOf", "(I)I"⟩, 109), (⟨"InkLakeModel", "termOf", "(I)I"⟩, 109), (⟨"InkLakeModel", "qJoins", "(I)V"⟩, 109), (⟨"InkLakeModel", "canBe", "(I)Z"⟩, 109), (⟨"InkLakeModel", "villageMany", "()I"⟩, 109), (⟨"InkLakeModel", "isAhead", "(III)Z"⟩, 109), (⟨"InkLakeModel", "putsAside", "()V"⟩, 109), (⟨"InkLakeModel", "seasonsGo", "(I)V"⟩, 109), (⟨"InkLakeModel", "seasonGoes", "(III)V"⟩, 109), (⟨"InkLakeModel", "takesBack", "()V"⟩, 109), (⟨"InkLakeModel", "finds", "(IZ)V"⟩, 109), (⟨"InkLakeModel", "worthOf", "(I)I"⟩, 109), (⟨"InkLakeModel", "writesAll", "(I)I"⟩, 109), (⟨"InkLakeModel", "writesOne", "(I)I"⟩, 109)]
theorem lw_r7 : ∀ q ∈ lw_privs_7, lw_okq q := List.forall_mem_cons.mpr ⟨lw_p96, List.forall_mem_cons.mpr ⟨lw_p97, List.forall_mem_cons.mpr ⟨lw_p98, List.forall_mem_cons.mpr ⟨lw_p99, List.forall_mem_cons.mpr ⟨lw_p100, List.forall_mem_cons.mpr ⟨lw_p101, List.forall_mem_cons.mpr ⟨lw_p102, List.forall_mem_cons.mpr ⟨lw_p103, List.forall_mem_cons.mpr ⟨lw_p104, List.forall_mem_cons.mpr ⟨lw_p105, List.forall_mem_cons.mpr ⟨lw_p106, List.forall_mem_cons.mpr ⟨lw_p107, List.forall_mem_cons.mpr ⟨lw_p108, List.forall_mem_cons.mpr ⟨lw_p109, List.forall_mem_cons.mpr ⟨lw_p110, List.forall_mem_cons.mpr ⟨lw_p111, fun _ h => absurd h List.not_mem_nil⟩⟩⟩⟩⟩⟩⟩⟩⟩⟩⟩⟩⟩⟩⟩⟩
theorem lw_p112 : lw_okq (⟨"InkLakeModel", "isKept", "(III)V"⟩, 109) := ⟨⟨by decide +kernel, by decide +kernel⟩, List.mem_of_getElem? (i := 948) (by decide +kernel), List.mem_of_getElem? (i := 1658) (by decide +kernel), List.mem_of_getElem? (i := 1659) (by decide +kernel)⟩
theorem lw_p113 : lw_okq (⟨"InkLakeModel", "triesAnew", "()V"⟩, 109) := ⟨⟨by decide +kernel, by decide +kernel⟩, List.mem_of_getElem? (i := 948) (by decide +kernel), List.mem_of_getElem? (i := 1662) (by decide +kernel), List.mem_of_getElem? (i := 1663) (by decide +kernel)⟩
theorem lw_p114 : lw_okq (⟨"InkLakeModel", "refuses", "(I)I"⟩, 109) := ⟨⟨by decide +kernel, by decide +kernel⟩, List.mem_of_getElem? (i := 948) (by decide +kernel), List.mem_of_getElem? (i := 1680) (by decide +kernel), List.mem_of_getElem? (i := 1681) (by decide +kernel)⟩
theorem lw_p115 : lw_okq (⟨"InkLakeModel", "isFlow", "(II)Z"⟩, 109) := ⟨⟨by decide +kernel, by decide +kernel⟩, List.mem_of_getElem? (i := 948) (by decide +kernel), List.mem_of_getElem? (i := 1684) (by decide +kernel), List.mem_of_getElem? (i := 1685) (by decide +kernel)⟩
theorem lw_p116 : lw_okq (⟨"InkLakeModel", "beginsSo", "(II)Z"⟩, 109) := ⟨⟨by decide +kernel, by decide +kernel⟩, List.mem_of_getElem? (i := 948) (by decide +kernel), List.mem_of_getElem? (i := 1696) (by decide +kernel), List.mem_of_getElem? (i := 1697) (by decide +kernel)⟩
theorem lw_p117 : lw_okq (⟨"InkLakeModel", "keeps", "()V"⟩, 109) := ⟨⟨by decide +kernel, by decide +kernel⟩, List.mem_of_getElem? (i := 948) (by decide +kernel), List.mem_of_getElem? (i := 1708) (by decide +kernel), List.mem_of_getElem? (i := 1709) (by decide +kernel)⟩
theorem lw_p118 : lw_okq (⟨"InkLakeModel", "drawOf", "(I)I"⟩, 109) := ⟨⟨by decide +kernel, by decide +kernel⟩, List.mem_of_getElem? (i := 948) (by decide +kernel), List.mem_of_getElem? (i := 1728) (by decide +kernel), List.mem_of_getElem? (i := 1729) (by decide +kernel)⟩
theorem lw_p119 : lw_okq (⟨"InkLakeModel", "qKind", "()I"⟩, 109) := ⟨⟨by decide +kernel, by decide +kernel⟩, List.mem_of_getElem? (i := 948) (by decide +kernel), List.mem_of_getElem? (i := 1741) (by decide +kernel), List.mem_of_getElem? (i := 1742) (by decide +kernel)⟩
theorem lw_p120 : lw_okq (⟨"InkLakeModel", "qTold", "(I)J"⟩, 109) := ⟨⟨by decide +kernel, by decide +kernel⟩, List.mem_of_getElem? (i := 948) (by decide +kernel), List.mem_of_getElem? (i := 1746) (by decide +kernel), List.mem_of_getElem? (i := 1747) (by decide +kernel)⟩
theorem lw_p121 : lw_okq (⟨"InkLakeModel", "qOf", "(IJI)J"⟩, 109) := ⟨⟨by decide +kernel, by decide +kernel⟩, List.mem_of_getElem? (i := 948) (by decide +kernel), List.mem_of_getElem? (i := 1750) (by decide +kernel), List.mem_of_getElem? (i := 1751) (by decide +kernel)⟩
theorem lw_p122 : lw_okq (⟨"InkLakeModel", "qTakes", "(IJI)V"⟩, 109) := ⟨⟨by decide +kernel, by decide +kernel⟩, List.mem_of_getElem? (i := 948) (by decide +kernel), List.mem_of_getElem? (i := 1754) (by decide +kernel), List.mem_of_getElem? (i := 1755) (by decide +kernel)⟩
theorem lw_p123 : lw_okq (⟨"InkLakeModel", "writesTwo", "(I)V"⟩, 109) := ⟨⟨by decide +kernel, by decide +kernel⟩, List.mem_of_getElem? (i := 948) (by decide +kernel), List.mem_of_getElem? (i := 1762) (by decide +kernel), List.mem_of_getElem? (i := 1763) (by decide +kernel)⟩
theorem lw_p124 : lw_okq (⟨"InkLakeModel", "writes", "(I)V"⟩, 109) := ⟨⟨by decide +kernel, by decide +kernel⟩, List.mem_of_getElem? (i := 948) (by decide +kernel), List.mem_of_getElem? (i := 1766) (by decide +kernel), List.mem_of_getElem? (i := 1767) (by decide +kernel)⟩
theorem lw_p125 : lw_okq (⟨"InkLakeModel", "isImage", "(I)Z"⟩, 109) := ⟨⟨by decide +kernel, by decide +kernel⟩, List.mem_of_getElem? (i := 948) (by decide +kernel), List.mem_of_getElem? (i := 1781) (by decide +kernel), List.mem_of_getElem? (i := 1782) (by decide +kernel)⟩
theorem lw_p126 : lw_okq (⟨"InkLakeModel", "twoAt", "(I)I"⟩, 109) := ⟨⟨by decide +kernel, by decide +kernel⟩, List.mem_of_getElem? (i := 948) (by decide +kernel), List.mem_of_getElem? (i := 1785) (by decide +kernel), List.mem_of_getElem? (i := 1786) (by decide +kernel)⟩
theorem lw_p127 : lw_okq (⟨"InkLakeModel", "isDeedTold", "(I)Z"⟩, 109) := ⟨⟨by decide +kernel, by decide +kernel⟩, List.mem_of_getElem? (i := 948) (by decide +kernel), List.mem_of_getElem? (i := 1789) (by decide +kernel), List.mem_of_getElem? (i := 1790) (by decide +kernel)⟩
def lw_privs_8 : List (MethodName × Nat) := [(⟨"InkLakeModel", "isKept", "(III)V"⟩, 109), (⟨"InkLakeModel", "triesAnew", "()V"⟩, 109), (⟨"InkLakeModel", "refuses", "(I)I"⟩, 109), (⟨"InkLakeModel", "isFlow", "(II)Z"⟩, 109), (⟨"InkLakeModel", "beginsSo", "(II)Z"⟩, 109), (⟨"InkLakeModel", "keeps", "()V"⟩, 109), (⟨"InkLakeModel", "drawOf", "(I)I"⟩, 109), (⟨"InkLakeModel", "qKind", "()I"⟩, 109), (⟨"InkLakeModel", "qTold", "(I)J"⟩, 109), (⟨"InkLakeModel", "qOf", "(IJI)J"⟩, 109), (⟨"InkLakeModel", "qTakes", "(IJI)V"⟩, 109), (⟨"InkLakeModel", "writesTwo", "(I)V"⟩, 109), (⟨"InkLakeModel", "writes", "(I)V"⟩, 109), (⟨"InkLakeModel", "isImage", "(I)Z"⟩, 109), (⟨"InkLakeModel", "twoAt", "(I)I"⟩, 109), (⟨"InkLakeModel", "isDeedTold", "(I)Z"⟩, 109)]
theorem lw_r8 : ∀ q ∈ lw_privs_8, lw_okq q := List.forall_mem_cons.mpr ⟨lw_p112, List.forall_mem_cons.mpr ⟨lw_p113, List.forall_mem_cons.mpr ⟨lw_p114, List.forall_mem_cons.mpr ⟨lw_p115, List.forall_mem_cons.mpr ⟨lw_p116, List.forall_mem_cons.mpr ⟨lw_p117, List.forall_mem_cons.mpr ⟨lw_p118, List.forall_mem_cons.mpr ⟨lw_p119, List.forall_mem_cons.mpr ⟨lw_p120, List.forall_mem_cons.mpr ⟨lw_p121, List.forall_mem_cons.mpr ⟨lw_p122, List.forall_mem_cons.mpr ⟨lw_p123, List.forall_mem_cons.mpr ⟨lw_p124, List.forall_mem_cons.mpr ⟨lw_p125, List.forall_mem_cons.mpr ⟨lw_p126, List.forall_mem_cons.mpr ⟨lw_p127, fun _ h => absurd h List.not_mem_nil⟩⟩⟩⟩⟩⟩⟩⟩⟩⟩⟩⟩⟩⟩⟩⟩
def lw_privs : List (MethodName × Nat) := lw_privs_1 ++ (lw_privs_2 ++ (lw_privs_3 ++ (lw_privs_4 ++ (lw_privs_5 ++ (lw_privs_6 ++ (lw_privs_7 ++ (lw_privs_8)))))))
def lw_tbl : List Cond := k2_sels lw_privs ++ tables_1
theorem lw_privs_ok : ∀ q ∈ lw_privs, lw_okq q := by
  show ∀ q ∈ lw_privs_1 ++ (lw_privs_2 ++ (lw_privs_3 ++ (lw_privs_4 ++ (lw_privs_5 ++ (lw_privs_6 ++ (lw_privs_7 ++ (lw_privs_8))))))), lw_okq q
  exact List.forall_mem_append.mpr ⟨lw_r1, List.forall_mem_append.mpr ⟨lw_r2, List.forall_mem_append.mpr ⟨lw_r3, List.forall_mem_append.mpr ⟨lw_r4, List.forall_mem_append.mpr ⟨lw_r5, List.forall_mem_append.mpr ⟨lw_r6, List.forall_mem_append.mpr ⟨lw_r7, lw_r8⟩⟩⟩⟩⟩⟩⟩
-- ===== end of PART A; then your names; then what follows =====
def va_AOA (ty : FieldType) (U : State) : Prop := (Cond.arrayOver (.array ty)).before #[] U = true
theorem va_AOA.use {ty : FieldType} {A : Array Value} {U : State} (h : va_AOA ty U) : (Cond.arrayOver (.array ty)).before A U = true := h
/-! ===== BEGIN words of one list among another's, by their places ===== -/
theorem goodIn_r {big : List Cond} (ws : List Cond) (ps : List Nat) (hp : ws = ps.filterMap (fun i => big[i]?)) (h : ws.all goodWord = true) : GoodIn big ws := by
  intro w hw
  have h1 := List.all_eq_true.mp h w hw
  rw [hp] at hw
  obtain ⟨i, -, hi⟩ := List.mem_filterMap.mp hw
  have hm : w ∈ big := by first | exact List.mem_of_getElem? hi | exact List.getElem?_mem hi
  exact ⟨hm, good_of_word h1⟩
theorem goodIn_app {big a b : List Cond} (ha : GoodIn big a) (hb : GoodIn big b) : GoodIn big (a ++ b) := fun w h => (List.mem_append.mp h).elim (ha w) (hb w)
theorem goodIn_ca {big a b : List Cond} {c : Cond} (ha : GoodIn big (c :: a)) (hb : GoodIn big b) : GoodIn big (c :: (a ++ b)) := fun w h => (List.mem_cons.mp h).elim (fun e => ha w (List.mem_cons.mpr (Or.inl e))) (fun h => (List.mem_append.mp h).elim (fun h => ha w (List.mem_cons.mpr (Or.inr h))) (hb w))
theorem goodIn_sub {big ws : List Cond} (hm : ∀ w ∈ ws, w ∈ big) (h : ws.all goodWord = true) : GoodIn big ws := fun w hw => ⟨hm w hw, good_of_word (List.all_eq_true.mp h w hw)⟩
/-! ===== END ===== -/

/-! ===== BEGIN new T[n][m]: the outer array a place, the inner ones among the pooled ===== -/
/-- f, but v at every address of l -/
def vr_up {α : Type} (f : Nat → α) (l : List Nat) (v : α) : Nat → α := fun a => if a ∈ l then v else f a
theorem vr_up_in {α : Type} {f : Nat → α} {l : List Nat} {v : α} {a : Nat} (h : a ∈ l) : vr_up f l v a = v := if_pos h
theorem vr_up_ne {α : Type} {f : Nat → α} {l : List Nat} {v : α} {a : Nat} (h : a ∉ l) : vr_up f l v a = f a := if_neg h
theorem vr_rows {L l : List Nat} {f : Nat → va_E} {e : va_E} (h : ∀ a, a ∈ l → a ∉ L) : va_pl L f ++ l.map (fun a => (a, e)) = va_pl (L ++ l) (vr_up f l e) := by
  unfold va_pl
  rw [List.map_append]
  congr 1
  · apply List.map_congr_left
    intro a ha
    rw [vr_up_ne (fun q => h a q ha)]
  · apply List.map_congr_left
    intro a ha
    rw [vr_up_in ha]
theorem vr_lay {X rows : va_W} {x : Nat × va_E} {pl : va_W} {D : va_G} {cl : List vw_C} {H : Heap} (hP : va_P D cl (((X ++ pl) ++ [x]) ++ rows) H) : va_P D cl ((X ++ [x]) ++ (pl ++ rows)) H := by
  rw [List.append_assoc (X ++ pl)] at hP
  have h := va_P.swap hP
  rw [← List.append_assoc X] at h
  have h2 := va_P.swap h
  rw [List.append_assoc (X ++ [x])] at h2
  exact h2
theorem vr_layD {X rows : va_W} {x : Nat × va_E} {pl : va_W} {A : Nat → Prop} (hD : va_D A (((X ++ pl) ++ [x]) ++ rows)) : va_D A ((X ++ [x]) ++ (pl ++ rows)) := by
  rw [List.append_assoc (X ++ pl)] at hD
  have h := va_D.swap hD
  rw [← List.append_assoc X] at h
  have h2 := va_D.swap h
  rw [List.append_assoc (X ++ [x])] at h2
  exact h2
theorem vr_outer (c : ClassId) (N h0 : Nat) : ∀ i : Nat, Jvm.Free.Multi.outerC c N h0 i = arrV c N (fun j => va_rf (if j < i then some (h0 + 1 + j) else none))
  | 0 => by
    show ({ cls := c, slots := Array.replicate N .null, vm := .none } : Cell) = _
    rw [arrV_new]
    refine congrArg (arrV c N) (funext fun j => ?_)
    simp [va_rf]
  | i + 1 => by
    show (Jvm.Free.Multi.outerC c N h0 i).setSlot i (.ref (h0 + 1 + i)) = _
    rw [vr_outer c N h0 i, arrV_store]
    refine congrArg (arrV c N) (funext fun j => ?_)
    by_cases e : j = i
    · subst e
      simp [updV, va_rf]
    · by_cases h : j < i
      · simp [updV, e, h, Nat.lt_succ_of_lt h]
      · simp [updV, e, h, show ¬ j < i + 1 by omega]
section VGM
variable {p : Program} {l : Launch} {e : Env} {R : Room} {s : State} {m : MethodId} {args : Array Value} {below : List Frame} {meth : Method} {c : Code} {H : Heap} {locs : List Loc} {cells slots : Nat} {Q : State → Prop}
variable {cc : ByteArray} {pc : Nat} {ls : Array Slot} {rest : List Value} {D : va_G} {cl : List vw_C} {A : Nat → Prop} {a : Nat} {tys : List (ClassId × FieldType)} {ws : va_W} {H0 : Heap}
theorem va_mna {X : va_W} {L : List Nat} {f : Nat → va_E} {cc : ByteArray} (hexec : p.tables.exec = Jvm.exec) (hb : c.code = cc) {own : String} {index : Nat} {ty : FieldType} {cy : ClassId} (hown : s.vm.findClass own = some m.cls) (hclink : (Cond.classLink own index ("[" ++ (FieldType.array ty).toString)).before args s = true) (hover : va_AOA ty s) (harr : (Cond.arrayClass ty).before args s = true) (hcy : s.vm.findClass (FieldType.array ty).toString = some cy)
    (hK : va_K D cl tys s) (hP : va_P D cl (X ++ va_pl L f) H) (hD : va_D A (X ++ va_pl L f)) (hS : va_S A H0 H locs) (hA : ∀ q, H0.size ≤ q → A q) {n k : Int32} {N' K' : Nat} {z : vp_A} (hn : ¬ n < 0) (hk : ¬ k < 0) (hN : n.toNatClampNeg = N') (hM : k.toNatClampNeg = K')
    (hb1 : N' * 4 ≤ 536870912) (hb2 : K' * componentBytes ty ≤ 536870912) (hb3 : K' ≤ 536870912) (hdf : fits ty (defaultValue ty) = true) (hdd : (defaultValue ty).isDefault = true) (hcells : cells + (1 + N') ≤ R.cells) (hslots : slots + (N' + N' * K') ≤ R.slots) (hz : ∀ c : ClassId, Jvm.Free.Multi.innerC c K' (defaultValue ty) = vp_cell c z) (hdg : decode cc pc = .ok (.multianewarray index 2, 4))
    (kk : ∀ (q : Nat) (r : Nat → Nat) (cA : ClassId) (H1 : Heap), (∀ i j : Nat, i < N' → j < N' → r i = r j → i = j) → (∀ i : Nat, i < N' → r i ∉ L) → va_K D cl (tys ++ [(cA, .array ty)]) s →
      va_P D cl ((X ++ [(q, .inl (cA, N', .inr (.inr (.inr (.inr (fun i => if i < N' then some (r i) else none))))))]) ++ va_pl (L ++ (List.range N').map r) (vr_up f ((List.range N').map r) (.inl (cy, z)))) H1 → va_D A ((X ++ [(q, .inl (cA, N', .inr (.inr (.inr (.inr (fun i => if i < N' then some (r i) else none))))))]) ++ va_pl (L ++ (List.range N').map r) (vr_up f ((List.range N').map r) (.inl (cy, z)))) → va_S A H0 H1 locs →
      W p l e R s m args below meth c H1 locs (cells + 1 + N') (slots + N' + N' * K') Q (F0 m (pc + 4) ls (.ref q :: rest))) : W p l e R s m args below meth c H locs cells slots Q (F0 m pc ls (.int k :: .int n :: rest)) := by
  subst hN
  subst hM
  intro T hT Xs
  obtain ⟨vm₁, cA, comp, -, fA, fC, hO, -, X', step⟩ := Xs.multianewarray2F hexec hown hclink (va_AOA.use hover) harr (g := F0 m pc ls (.int k :: .int n :: rest)) rfl (by rw [hb]; exact hdg) rfl hn hk hb1 hb2 hb3 hdf hdd hcells hslots
  have ec : some cy = some comp := hcy.symm.trans fC
  cases ec
  generalize hF : Jvm.Free.Multi.fill (T.setVm vm₁) cA cy n.toNatClampNeg k.toNatClampNeg (defaultValue ty) n.toNatClampNeg = F at X' step
  have hTh : (T.setVm vm₁).heap = H := hT
  obtain ⟨f1, f2, -, -⟩ := Jvm.Free.Multi.fill_facts (T.setVm vm₁) cA cy n.toNatClampNeg k.toNatClampNeg (defaultValue ty) n.toNatClampNeg
  rw [hF, hTh] at f1 f2
  have hold : ∀ x : Nat, x < H.size → F.heap[x]? = H[x]? := fun x hx => by
    have := Jvm.Free.Multi.fill_old (T.setVm vm₁) cA cy n.toNatClampNeg k.toNatClampNeg (defaultValue ty) (a := x) (by rw [hTh]; exact hx) n.toNatClampNeg
    rw [hF, hTh] at this
    exact this
  have hrow : ∀ j : Nat, j < n.toNatClampNeg → F.heap[H.size + 1 + j]? = some (vp_cell cy z) := fun j hj => by
    have := Jvm.Free.Multi.fill_inner (T.setVm vm₁) cA cy n.toNatClampNeg k.toNatClampNeg (defaultValue ty) n.toNatClampNeg j hj
    rw [hF, hTh, hz] at this
    exact this
  have hout : Jvm.Free.Multi.outerC cA n.toNatClampNeg H.size n.toNatClampNeg = vp_cell cA (n.toNatClampNeg, .inr (.inr (.inr (.inr (fun i => if i < n.toNatClampNeg then some (H.size + 1 + i) else none))))) := by
    rw [vp_cell_q]
    exact vr_outer cA n.toNatClampNeg H.size n.toNatClampNeg
  rw [hout] at f2
  have hlt : ∀ a, a ∈ L → a < H.size := fun a ha => by
    obtain ⟨k9, hk9⟩ := va_pl_get (X := X) (f := f) ha
    exact (hP k9 _ hk9).lt
  have hnl : ∀ i : Nat, i < n.toNatClampNeg → H.size + 1 + i ∉ L := fun i _ h => by
    have := hlt _ h
    omega
  have hnm : ∀ a, a ∈ (List.range n.toNatClampNeg).map (fun i => H.size + 1 + i) → a ∉ L := fun a ha h => by
    obtain ⟨i, -, rfl⟩ := List.mem_map.mp ha
    have := hlt _ h
    omega
  have hP0 : va_P D cl (X ++ va_pl L f) F.heap := hP.kept (fun k9 x hx => hold x.1 ((hP k9 x hx).lt))
  have hP1 : va_P D cl ((X ++ va_pl L f) ++ [(H.size, .inl (cA, n.toNatClampNeg, .inr (.inr (.inr (.inr (fun i => if i < n.toNatClampNeg then some (H.size + 1 + i) else none))))))]) F.heap := hP0.app (fun k9 x hx => by
    have h0 : k9 < 1 := (List.getElem?_eq_some_iff.mp hx).1
    rw [show k9 = 0 by omega] at hx
    cases hx
    exact f2)
  have hP2 : va_P D cl (((X ++ va_pl L f) ++ [(H.size, .inl (cA, n.toNatClampNeg, .inr (.inr (.inr (.inr (fun i => if i < n.toNatClampNeg then some (H.size + 1 + i) else none))))))]) ++ ((List.range n.toNatClampNeg).map (fun i => H.size + 1 + i)).map (fun a => (a, .inl (cy, z)))) F.heap := hP1.app (fun k9 x hx => by
    obtain ⟨a, ha, rfl⟩ := List.mem_map.mp (List.mem_of_getElem? hx)
    obtain ⟨i, hi, rfl⟩ := List.mem_map.mp ha
    exact hrow i (List.mem_range.mp hi))
  have hD2 : va_D A (((X ++ va_pl L f) ++ [(H.size, .inl (cA, n.toNatClampNeg, .inr (.inr (.inr (.inr (fun i => if i < n.toNatClampNeg then some (H.size + 1 + i) else none))))))]) ++ ((List.range n.toNatClampNeg).map (fun i => H.size + 1 + i)).map (fun a => (a, .inl (cy, z)))) := by
    have hD1 := hD.push (e := .inl (cA, n.toNatClampNeg, .inr (.inr (.inr (.inr (fun i => if i < n.toNatClampNeg then some (H.size + 1 + i) else none)))))) hP rfl (hA _ hS.1)
    generalize hW1 : (X ++ va_pl L f) ++ [(H.size, .inl (cA, n.toNatClampNeg, .inr (.inr (.inr (.inr (fun i => if i < n.toNatClampNeg then some (H.size + 1 + i) else none))))))] = W1 at hD1 hP1 ⊢
    have hle : ∀ (k9 : Nat) (x : Nat × va_E), W1[k9]? = some x → x.1 ≤ H.size := fun k9 x hx => by
      rw [← hW1] at hx
      by_cases hl : k9 < (X ++ va_pl L f).length
      · rw [List.getElem?_append_left hl] at hx
        exact Nat.le_of_lt ((hP k9 x hx).lt)
      · rw [List.getElem?_append_right (by omega)] at hx
        have h0 : k9 - (X ++ va_pl L f).length < 1 := (List.getElem?_eq_some_iff.mp hx).1
        rw [show k9 - (X ++ va_pl L f).length = 0 by omega] at hx
        cases hx
        exact Nat.le_refl _
    have hr : ∀ (k9 : Nat) (x : Nat × va_E), (((List.range n.toNatClampNeg).map (fun i => H.size + 1 + i)).map (fun a => ((a, .inl (cy, z)) : Nat × va_E)))[k9]? = some x → x.1 = H.size + 1 + k9 := fun k9 x hx => by
      rw [List.getElem?_map, List.getElem?_map] at hx
      by_cases h9 : k9 < n.toNatClampNeg
      · rw [List.getElem?_range h9] at hx
        cases hx
        rfl
      · have hn0 : (List.range n.toNatClampNeg)[k9]? = none := List.getElem?_eq_none (by rw [List.length_range]; omega)
        rw [hn0] at hx
        cases hx
    refine ⟨fun i j x y hi hj hxy => ?_, fun k9 x hx => ?_⟩
    · by_cases h1 : i < W1.length <;> by_cases h2 : j < W1.length
      · rw [List.getElem?_append_left h1] at hi
        rw [List.getElem?_append_left h2] at hj
        exact hD1.1 i j x y hi hj hxy
      · rw [List.getElem?_append_left h1] at hi
        rw [List.getElem?_append_right (by omega)] at hj
        have := hle _ _ hi
        have := hr _ _ hj
        omega
      · rw [List.getElem?_append_right (by omega)] at hi
        rw [List.getElem?_append_left h2] at hj
        have := hle _ _ hj
        have := hr _ _ hi
        omega
      · rw [List.getElem?_append_right (by omega)] at hi hj
        have := hr _ _ hi
        have := hr _ _ hj
        omega
    · by_cases h1 : k9 < W1.length
      · rw [List.getElem?_append_left h1] at hx
        exact hD1.2 k9 x hx
      · rw [List.getElem?_append_right (by omega)] at hx
        have := hr _ _ hx
        exact hA _ (by have := hS.1; omega)
  have hAr : ArrOfT s cA (.array ty) := fun N9 z9 => by
    obtain ⟨-, k9, hk9, cm9, hkk9⟩ := (hO 0 0 0).1
    exact ⟨(fun q hq => by cases hq), k9, hk9, cm9, hkk9⟩
  have hK2 : va_K D cl (tys ++ [(cA, .array ty)]) s := ⟨hK.1, fun k9 x hx => by
    by_cases hl : k9 < tys.length
    · rw [List.getElem?_append_left hl] at hx
      exact hK.2 k9 x hx
    · rw [List.getElem?_append_right (by omega)] at hx
      have h0 : k9 - tys.length < 1 := (List.getElem?_eq_some_iff.mp hx).1
      rw [show k9 - tys.length = 0 by omega] at hx
      cases hx
      exact ⟨hAr, fA⟩⟩
  obtain ⟨t, a1, b1⟩ := kk H.size (fun i => H.size + 1 + i) cA F.heap (fun i j _ _ h => by have h9 : H.size + 1 + i = H.size + 1 + j := h; omega) hnl hK2 (by rw [← vr_rows hnm]; exact vr_lay hP2) (by rw [← vr_rows hnm]; exact vr_layD hD2) ⟨by rw [f1]; have := hS.1; omega, fun x h1 h2 => (hold x (Nat.lt_of_lt_of_le h1 hS.1)).trans (hS.2.1 x h1 h2), hS.2.2⟩ F rfl X'
  refine ⟨t, step t ?_, b1⟩
  have e : T.heap.size = H.size := by rw [hT]
  rw [e]
  exact a1
end VGM
/-! ===== END ===== -/

/-! ===== BEGIN printed: names, fields, word lists, decode rows ===== -/
def RX0 : String := "InkLake$Acts"
def TX0 : u_T := fun k => match k with
  | 0 => ("InkLake$Acts", "past", "[LInkLake$Lake;", true)
  | 1 => ("InkLake$Acts", "next", "I", false)
  | _ => ("InkLake$Acts", "count", "I", false)
def tyX0 : Nat → FieldType := fun k => match k with
  | 0 => .array (.object "InkLake$Lake")
  | 1 => .int
  | _ => .int
theorem nmX0 : ∀ a, a < 3 → ∀ b, b < 3 → a ≠ b → (TX0 a).2.1 ≠ (TX0 b).2.1 := by decide +kernel
theorem tyX0_ok : ∀ k, k < 3 → parseFieldDescriptor (TX0 k).2.2.1 = some (tyX0 k) := by decide +kernel
abbrev cX0_init : ByteArray := prog_2_method_1_code
def yX0_init : MethodName := ⟨RX0, "<init>", "()V"⟩
abbrev cX0_forget : ByteArray := prog_2_method_2_code
def yX0_forget : MethodName := ⟨RX0, "forget", "()V"⟩
abbrev cX0_remember : ByteArray := prog_2_method_3_code
def yX0_remember : MethodName := ⟨RX0, "remember", "(LInkLake$Lake;)V"⟩
abbrev cX0_recall : ByteArray := prog_2_method_4_code
def yX0_recall : MethodName := ⟨RX0, "recall", "(LInkLake$Lake;)V"⟩
def RX1 : String := "InkLake$Lake"
def TX1 : u_T := fun k => match k with
  | 0 => ("InkLake$Lake", "season", "I", false)
  | 1 => ("InkLake$Lake", "buckets", "I", false)
  | 2 => ("InkLake$Lake", "grains", "I", false)
  | 3 => ("InkLake$Lake", "written", "I", false)
  | 4 => ("InkLake$Lake", "keptCount", "I", false)
  | 5 => ("InkLake$Lake", "ink", "[I", true)
  | _ => ("InkLake$Lake", "age", "[I", true)
def tyX1 : Nat → FieldType := fun k => match k with
  | 0 => .int
  | 1 => .int
  | 2 => .int
  | 3 => .int
  | 4 => .int
  | 5 => .array .int
  | _ => .array .int
theorem nmX1 : ∀ a, a < 7 → ∀ b, b < 7 → a ≠ b → (TX1 a).2.1 ≠ (TX1 b).2.1 := by decide +kernel
theorem tyX1_ok : ∀ k, k < 7 → parseFieldDescriptor (TX1 k).2.2.1 = some (tyX1 k) := by decide +kernel
abbrev cX1_init : ByteArray := prog_3_method_1_code
def yX1_init : MethodName := ⟨RX1, "<init>", "()V"⟩
abbrev cX1_begin : ByteArray := prog_3_method_2_code
def yX1_begin : MethodName := ⟨RX1, "begin", "(II)V"⟩
abbrev cX1_copyOf : ByteArray := prog_3_method_3_code
def yX1_copyOf : MethodName := ⟨RX1, "copyOf", "(LInkLake$Lake;)V"⟩
abbrev cX1_darkness : ByteArray := prog_3_method_4_code
def yX1_darkness : MethodName := ⟨RX1, "darkness", "()I"⟩
abbrev cX1_isWritten : ByteArray := prog_3_method_5_code
def yX1_isWritten : MethodName := ⟨RX1, "isWritten", "(I)Z"⟩
abbrev cX1_draw : ByteArray := prog_3_method_6_code
def yX1_draw : MethodName := ⟨RX1, "draw", "(II)V"⟩
def RX2 : String := "InkLake$Marks"
def TX2 : u_T := fun k => match k with
  | 0 => ("InkLake$Marks", "kinds", "[I", true)
  | 1 => ("InkLake$Marks", "places", "[I", true)
  | 2 => ("InkLake$Marks", "sizes", "[I", true)
  | _ => ("InkLake$Marks", "count", "I", false)
def tyX2 : Nat → FieldType := fun k => match k with
  | 0 => .array .int
  | 1 => .array .int
  | 2 => .array .int
  | _ => .int
theorem nmX2 : ∀ a, a < 4 → ∀ b, b < 4 → a ≠ b → (TX2 a).2.1 ≠ (TX2 b).2.1 := by decide +kernel
theorem tyX2_ok : ∀ k, k < 4 → parseFieldDescriptor (TX2 k).2.2.1 = some (tyX2 k) := by decide +kernel
abbrev cX2_init : ByteArray := prog_4_method_1_code
def yX2_init : MethodName := ⟨RX2, "<init>", "()V"⟩
abbrev cX2_scan : ByteArray := prog_4_method_2_code
def yX2_scan : MethodName := ⟨RX2, "scan", "([II)V"⟩
abbrev cX2_put : ByteArray := prog_4_method_3_code
def yX2_put : MethodName := ⟨RX2, "put", "(III)V"⟩
abbrev cX2_isLetter : ByteArray := prog_4_method_4_code
def yX2_isLetter : MethodName := ⟨RX2, "isLetter", "(I)Z"⟩
abbrev cX2_isDigit : ByteArray := prog_4_method_5_code
def yX2_isDigit : MethodName := ⟨RX2, "isDigit", "(I)Z"⟩
abbrev cX2_endOfWord : ByteArray := prog_4_method_6_code
def yX2_endOfWord : MethodName := ⟨RX2, "endOfWord", "([III)I"⟩
abbrev cX2_endOfNumber : ByteArray := prog_4_method_7_code
def yX2_endOfNumber : MethodName := ⟨RX2, "endOfNumber", "([III)I"⟩
abbrev cX2_valueOf : ByteArray := prog_4_method_8_code
def yX2_valueOf : MethodName := ⟨RX2, "valueOf", "([III)I"⟩
abbrev cX2_wordMark : ByteArray := prog_4_method_9_code
def yX2_wordMark : MethodName := ⟨RX2, "wordMark", "([III)I"⟩
def RX3 : String := "InkLake$Reader"
def TX3 : u_T := fun k => match k with
  | 0 => ("InkLake$Reader", "text", "[I", true)
  | 1 => ("InkLake$Reader", "marks", "LInkLake$Marks;", true)
  | 2 => ("InkLake$Reader", "name", "[I", true)
  | 3 => ("InkLake$Reader", "sums", "LInkLake$Sums;", false)
  | 4 => ("InkLake$Reader", "rule", "I", false)
  | 5 => ("InkLake$Reader", "at", "I", false)
  | 6 => ("InkLake$Reader", "open", "I", false)
  | 7 => ("InkLake$Reader", "fault", "I", false)
  | _ => ("InkLake$Reader", "place", "I", false)
def tyX3 : Nat → FieldType := fun k => match k with
  | 0 => .array .int
  | 1 => .object "InkLake$Marks"
  | 2 => .array .int
  | 3 => .object "InkLake$Sums"
  | 4 => .int
  | 5 => .int
  | 6 => .int
  | 7 => .int
  | _ => .int
theorem nmX3 : ∀ a, a < 9 → ∀ b, b < 9 → a ≠ b → (TX3 a).2.1 ≠ (TX3 b).2.1 := by decide +kernel
theorem tyX3_ok : ∀ k, k < 9 → parseFieldDescriptor (TX3 k).2.2.1 = some (tyX3 k) := by decide +kernel
abbrev cX3_init : ByteArray := prog_5_method_1_code
def yX3_init : MethodName := ⟨RX3, "<init>", "([I)V"⟩
abbrev cX3_begin : ByteArray := prog_5_method_2_code
def yX3_begin : MethodName := ⟨RX3, "begin", "(I)V"⟩
abbrev cX3_goesOn : ByteArray := prog_5_method_3_code
def yX3_goesOn : MethodName := ⟨RX3, "goesOn", "()Z"⟩
abbrev cX3_readLake : ByteArray := prog_5_method_4_code
def yX3_readLake : MethodName := ⟨RX3, "readLake", "(LInkLake$Shore;)V"⟩
abbrev cX3_readStatement : ByteArray := prog_5_method_5_code
def yX3_readStatement : MethodName := ⟨RX3, "readStatement", "(LInkLake$Shore;I)V"⟩
abbrev cX3_readQuestion : ByteArray := prog_5_method_6_code
def yX3_readQuestion : MethodName := ⟨RX3, "readQuestion", "(LInkLake$Sums;)I"⟩
abbrev cX3_readBrook : ByteArray := prog_5_method_7_code
def yX3_readBrook : MethodName := ⟨RX3, "readBrook", "(LInkLake$Shore;)V"⟩
abbrev cX3_readVillage : ByteArray := prog_5_method_8_code
def yX3_readVillage : MethodName := ⟨RX3, "readVillage", "(LInkLake$Shore;)V"⟩
abbrev cX3_readDeed : ByteArray := prog_5_method_9_code
def yX3_readDeed : MethodName := ⟨RX3, "readDeed", "(LInkLake$Shore;)V"⟩
abbrev cX3_readRule : ByteArray := prog_5_method_10_code
def yX3_readRule : MethodName := ⟨RX3, "readRule", "(LInkLake$Sums;I)V"⟩
abbrev cX3_giveName : ByteArray := prog_5_method_11_code
def yX3_giveName : MethodName := ⟨RX3, "giveName", "(LInkLake$Shore;I)I"⟩
abbrev cX3_findVillage : ByteArray := prog_5_method_12_code
def yX3_findVillage : MethodName := ⟨RX3, "findVillage", "(LInkLake$Shore;)I"⟩
abbrev cX3_readName : ByteArray := prog_5_method_13_code
def yX3_readName : MethodName := ⟨RX3, "readName", "()V"⟩
abbrev cX3_readNumber : ByteArray := prog_5_method_14_code
def yX3_readNumber : MethodName := ⟨RX3, "readNumber", "(II)I"⟩
abbrev cX3_readTest : ByteArray := prog_5_method_15_code
def yX3_readTest : MethodName := ⟨RX3, "readTest", "()V"⟩
abbrev cX3_readBoth : ByteArray := prog_5_method_16_code
def yX3_readBoth : MethodName := ⟨RX3, "readBoth", "()V"⟩
abbrev cX3_readFact : ByteArray := prog_5_method_17_code
def yX3_readFact : MethodName := ⟨RX3, "readFact", "()V"⟩
abbrev cX3_readSum : ByteArray := prog_5_method_18_code
def yX3_readSum : MethodName := ⟨RX3, "readSum", "()V"⟩
abbrev cX3_readProduct : ByteArray := prog_5_method_19_code
def yX3_readProduct : MethodName := ⟨RX3, "readProduct", "()V"⟩
abbrev cX3_readPart : ByteArray := prog_5_method_20_code
def yX3_readPart : MethodName := ⟨RX3, "readPart", "()V"⟩
abbrev cX3_readSums : ByteArray := prog_5_method_21_code
def yX3_readSums : MethodName := ⟨RX3, "readSums", "(I)V"⟩
abbrev cX3_isPart : ByteArray := prog_5_method_22_code
def yX3_isPart : MethodName := ⟨RX3, "isPart", "(I)Z"⟩
abbrev cX3_opens : ByteArray := prog_5_method_23_code
def yX3_opens : MethodName := ⟨RX3, "opens", "()Z"⟩
abbrev cX3_next : ByteArray := prog_5_method_24_code
def yX3_next : MethodName := ⟨RX3, "next", "()I"⟩
abbrev cX3_nextPlace : ByteArray := prog_5_method_25_code
def yX3_nextPlace : MethodName := ⟨RX3, "nextPlace", "()I"⟩
abbrev cX3_nextSize : ByteArray := prog_5_method_26_code
def yX3_nextSize : MethodName := ⟨RX3, "nextSize", "()I"⟩
abbrev cX3_need : ByteArray := prog_5_method_27_code
def yX3_need : MethodName := ⟨RX3, "need", "(I)V"⟩
abbrev cX3_fail : ByteArray := prog_5_method_28_code
def yX3_fail : MethodName := ⟨RX3, "fail", "(II)V"⟩
def RX4 : String := "InkLake$Rules"
def TX4 : u_T := fun k => match k with
  | 0 => ("InkLake$Rules", "shore", "LInkLake$Shore;", false)
  | 1 => ("InkLake$Rules", "drawn", "I", false)
  | _ => ("InkLake$Rules", "stack", "[I", true)
def tyX4 : Nat → FieldType := fun k => match k with
  | 0 => .object "InkLake$Shore"
  | 1 => .int
  | _ => .array .int
theorem nmX4 : ∀ a, a < 3 → ∀ b, b < 3 → a ≠ b → (TX4 a).2.1 ≠ (TX4 b).2.1 := by decide +kernel
theorem tyX4_ok : ∀ k, k < 3 → parseFieldDescriptor (TX4 k).2.2.1 = some (tyX4 k) := by decide +kernel
abbrev cX4_init : ByteArray := prog_6_method_1_code
def yX4_init : MethodName := ⟨RX4, "<init>", "()V"⟩
abbrev cX4_drawnBy : ByteArray := prog_6_method_2_code
def yX4_drawnBy : MethodName := ⟨RX4, "drawnBy", "(LInkLake$Lake;I)I"⟩
abbrev cX4_canBe : ByteArray := prog_6_method_3_code
def yX4_canBe : MethodName := ⟨RX4, "canBe", "(LInkLake$Lake;I)Z"⟩
abbrev cX4_readable : ByteArray := prog_6_method_4_code
def yX4_readable : MethodName := ⟨RX4, "readable", "(LInkLake$Lake;)I"⟩
abbrev cX4_writeThose : ByteArray := prog_6_method_5_code
def yX4_writeThose : MethodName := ⟨RX4, "writeThose", "(LInkLake$Lake;I)V"⟩
abbrev cX4_passSeason : ByteArray := prog_6_method_6_code
def yX4_passSeason : MethodName := ⟨RX4, "passSeason", "(LInkLake$Lake;I)I"⟩
abbrev cX4_fill : ByteArray := prog_6_method_7_code
def yX4_fill : MethodName := ⟨RX4, "fill", "(LInkLake$Lake;I)I"⟩
abbrev cX4_fadedBy : ByteArray := prog_6_method_8_code
def yX4_fadedBy : MethodName := ⟨RX4, "fadedBy", "(LInkLake$Lake;I)I"⟩
abbrev cX4_reckon : ByteArray := prog_6_method_9_code
def yX4_reckon : MethodName := ⟨RX4, "reckon", "(LInkLake$Sums;ILInkLake$Lake;I)I"⟩
abbrev cX4_isJoint : ByteArray := prog_6_method_10_code
def yX4_isJoint : MethodName := ⟨RX4, "isJoint", "(I)Z"⟩
abbrev cX4_join : ByteArray := prog_6_method_11_code
def yX4_join : MethodName := ⟨RX4, "join", "(III)I"⟩
abbrev cX4_partOf : ByteArray := prog_6_method_12_code
def yX4_partOf : MethodName := ⟨RX4, "partOf", "(ILInkLake$Lake;I)I"⟩
abbrev cX4_between : ByteArray := prog_6_method_13_code
def yX4_between : MethodName := ⟨RX4, "between", "(IJI)I"⟩
def RX5 : String := "InkLake$Share"
def TX5 : u_T := fun k => match k with
  | 0 => ("InkLake$Share", "trial", "LInkLake$Lake;", true)
  | 1 => ("InkLake$Share", "bits", "I", false)
  | 2 => ("InkLake$Share", "worth", "I", false)
  | 3 => ("InkLake$Share", "drawn", "I", false)
  | 4 => ("InkLake$Share", "bestBits", "I", false)
  | 5 => ("InkLake$Share", "bestWorth", "I", false)
  | _ => ("InkLake$Share", "bestDrawn", "I", false)
def tyX5 : Nat → FieldType := fun k => match k with
  | 0 => .object "InkLake$Lake"
  | 1 => .int
  | 2 => .int
  | 3 => .int
  | 4 => .int
  | 5 => .int
  | _ => .int
theorem nmX5 : ∀ a, a < 7 → ∀ b, b < 7 → a ≠ b → (TX5 a).2.1 ≠ (TX5 b).2.1 := by decide +kernel
theorem tyX5_ok : ∀ k, k < 7 → parseFieldDescriptor (TX5 k).2.2.1 = some (tyX5 k) := by decide +kernel
abbrev cX5_init : ByteArray := prog_7_method_1_code
def yX5_init : MethodName := ⟨RX5, "<init>", "()V"⟩
abbrev cX5_begin : ByteArray := prog_7_method_2_code
def yX5_begin : MethodName := ⟨RX5, "begin", "(LInkLake$Lake;)V"⟩
abbrev cX5_compare : ByteArray := prog_7_method_3_code
def yX5_compare : MethodName := ⟨RX5, "compare", "()V"⟩
def RX6 : String := "InkLake$Shore"
def TX6 : u_T := fun k => match k with
  | 0 => ("InkLake$Shore", "told", "Z", false)
  | 1 => ("InkLake$Shore", "holds", "I", false)
  | 2 => ("InkLake$Shore", "buckets", "I", false)
  | 3 => ("InkLake$Shore", "grains", "I", false)
  | 4 => ("InkLake$Shore", "counts", "[I", true)
  | 5 => ("InkLake$Shore", "letters", "[I", true)
  | 6 => ("InkLake$Shore", "gives", "[I", true)
  | 7 => ("InkLake$Shore", "blacks", "[I", true)
  | 8 => ("InkLake$Shore", "miles", "[I", true)
  | 9 => ("InkLake$Shore", "village", "[I", true)
  | 10 => ("InkLake$Shore", "needs", "[I", true)
  | 11 => ("InkLake$Shore", "worth", "[I", true)
  | 12 => ("InkLake$Shore", "term", "[I", true)
  | 13 => ("InkLake$Shore", "sums", "LInkLake$Sums;", true)
  | 14 => ("InkLake$Shore", "dries", "I", false)
  | 15 => ("InkLake$Shore", "reads", "I", false)
  | _ => ("InkLake$Shore", "drought", "I", false)
def tyX6 : Nat → FieldType := fun k => match k with
  | 0 => .boolean
  | 1 => .int
  | 2 => .int
  | 3 => .int
  | 4 => .array .int
  | 5 => .array .int
  | 6 => .array .int
  | 7 => .array .int
  | 8 => .array .int
  | 9 => .array .int
  | 10 => .array .int
  | 11 => .array .int
  | 12 => .array .int
  | 13 => .object "InkLake$Sums"
  | 14 => .int
  | 15 => .int
  | _ => .int
theorem nmX6 : ∀ a, a < 17 → ∀ b, b < 17 → a ≠ b → (TX6 a).2.1 ≠ (TX6 b).2.1 := by decide +kernel
theorem tyX6_ok : ∀ k, k < 17 → parseFieldDescriptor (TX6 k).2.2.1 = some (tyX6 k) := by decide +kernel
abbrev cX6_init : ByteArray := prog_8_method_1_code
def yX6_init : MethodName := ⟨RX6, "<init>", "()V"⟩
abbrev cX6_clear : ByteArray := prog_8_method_2_code
def yX6_clear : MethodName := ⟨RX6, "clear", "()V"⟩
abbrev cX6_rowOf : ByteArray := prog_8_method_3_code
def yX6_rowOf : MethodName := ⟨RX6, "rowOf", "(II)I"⟩
abbrev cX6_mostOf : ByteArray := prog_8_method_4_code
def yX6_mostOf : MethodName := ⟨RX6, "mostOf", "(I)I"⟩
abbrev cX6_find : ByteArray := prog_8_method_5_code
def yX6_find : MethodName := ⟨RX6, "find", "(I[I)I"⟩
abbrev cX6_knows : ByteArray := prog_8_method_6_code
def yX6_knows : MethodName := ⟨RX6, "knows", "([I)Z"⟩
abbrev cX6_lengthOf : ByteArray := prog_8_method_7_code
def yX6_lengthOf : MethodName := ⟨RX6, "lengthOf", "(II)I"⟩
abbrev cX6_isAlone : ByteArray := prog_8_method_8_code
def yX6_isAlone : MethodName := ⟨RX6, "isAlone", "(II)Z"⟩
def RX7 : String := "InkLake$Sums"
def TX7 : u_T := fun k => match k with
  | 0 => ("InkLake$Sums", "code", "[I", true)
  | 1 => ("InkLake$Sums", "from", "[I", true)
  | 2 => ("InkLake$Sums", "to", "[I", true)
  | _ => ("InkLake$Sums", "length", "I", false)
def tyX7 : Nat → FieldType := fun k => match k with
  | 0 => .array .int
  | 1 => .array .int
  | 2 => .array .int
  | _ => .int
theorem nmX7 : ∀ a, a < 4 → ∀ b, b < 4 → a ≠ b → (TX7 a).2.1 ≠ (TX7 b).2.1 := by decide +kernel
theorem tyX7_ok : ∀ k, k < 4 → parseFieldDescriptor (TX7 k).2.2.1 = some (tyX7 k) := by decide +kernel
abbrev cX7_init : ByteArray := prog_9_method_1_code
def yX7_init : MethodName := ⟨RX7, "<init>", "()V"⟩
abbrev cX7_clear : ByteArray := prog_9_method_2_code
def yX7_clear : MethodName := ⟨RX7, "clear", "()V"⟩
abbrev cX7_isTold : ByteArray := prog_9_method_3_code
def yX7_isTold : MethodName := ⟨RX7, "isTold", "(I)Z"⟩
abbrev cX7_put : ByteArray := prog_9_method_4_code
def yX7_put : MethodName := ⟨RX7, "put", "(I)V"⟩
def RX8 : String := "InkLake"
def TX8 : u_T := fun k => match k with
  | 0 => ("InkLake", "tape", "[I", true)
  | 1 => ("InkLake", "tapeLength", "I", false)
  | 2 => ("InkLake", "reader", "LInkLake$Reader;", true)
  | 3 => ("InkLake", "shore", "LInkLake$Shore;", false)
  | 4 => ("InkLake", "spare", "LInkLake$Shore;", false)
  | 5 => ("InkLake", "now", "LInkLake$Lake;", true)
  | 6 => ("InkLake", "ahead", "LInkLake$Lake;", true)
  | 7 => ("InkLake", "rules", "LInkLake$Rules;", true)
  | 8 => ("InkLake", "acts", "LInkLake$Acts;", true)
  | 9 => ("InkLake", "shared", "LInkLake$Share;", true)
  | 10 => ("InkLake", "question", "LInkLake$Sums;", true)
  | 11 => ("InkLake", "keptRows", "[[I", true)
  | 12 => ("InkLake", "picture", "[I", true)
  | 13 => ("InkLake", "pictureLength", "I", false)
  | 14 => ("InkLake", "outflowLeast", "I", false)
  | 15 => ("InkLake", "outflowMost", "I", false)
  | 16 => ("InkLake", "refused", "[I", true)
  | _ => ("InkLake", "seedNow", "J", false)
def tyX8 : Nat → FieldType := fun k => match k with
  | 0 => .array .int
  | 1 => .int
  | 2 => .object "InkLake$Reader"
  | 3 => .object "InkLake$Shore"
  | 4 => .object "InkLake$Shore"
  | 5 => .object "InkLake$Lake"
  | 6 => .object "InkLake$Lake"
  | 7 => .object "InkLake$Rules"
  | 8 => .object "InkLake$Acts"
  | 9 => .object "InkLake$Share"
  | 10 => .object "InkLake$Sums"
  | 11 => .array (.array .int)
  | 12 => .array .int
  | 13 => .int
  | 14 => .int
  | 15 => .int
  | 16 => .array .int
  | _ => .long
theorem nmX8 : ∀ a, a < 18 → ∀ b, b < 18 → a ≠ b → (TX8 a).2.1 ≠ (TX8 b).2.1 := by decide +kernel
theorem tyX8_ok : ∀ k, k < 18 → parseFieldDescriptor (TX8 k).2.2.1 = some (tyX8 k) := by decide +kernel
abbrev cX8_init : ByteArray := prog_1_method_1_code
def yX8_init : MethodName := ⟨RX8, "<init>", "()V"⟩
abbrev cX8_feed : ByteArray := prog_1_method_2_code
def yX8_feed : MethodName := ⟨RX8, "feed", "(IIIII)I"⟩
abbrev cX8_end : ByteArray := prog_1_method_3_code
def yX8_end : MethodName := ⟨RX8, "end", "(I)Z"⟩
abbrev cX8_shore : ByteArray := prog_1_method_4_code
def yX8_shore : MethodName := ⟨RX8, "shore", "()I"⟩
abbrev cX8_fault : ByteArray := prog_1_method_5_code
def yX8_fault : MethodName := ⟨RX8, "fault", "(I)I"⟩
abbrev cX8_has : ByteArray := prog_1_method_6_code
def yX8_has : MethodName := ⟨RX8, "has", "(I)I"⟩
abbrev cX8_letter : ByteArray := prog_1_method_7_code
def yX8_letter : MethodName := ⟨RX8, "letter", "(III)I"⟩
abbrev cX8_brook : ByteArray := prog_1_method_8_code
def yX8_brook : MethodName := ⟨RX8, "brook", "(II)I"⟩
abbrev cX8_deed : ByteArray := prog_1_method_9_code
def yX8_deed : MethodName := ⟨RX8, "deed", "(II)I"⟩
abbrev cX8_miles : ByteArray := prog_1_method_10_code
def yX8_miles : MethodName := ⟨RX8, "miles", "(I)I"⟩
abbrev cX8_kept : ByteArray := prog_1_method_11_code
def yX8_kept : MethodName := ⟨RX8, "kept", "(II)I"⟩
abbrev cX8_later : ByteArray := prog_1_method_12_code
def yX8_later : MethodName := ⟨RX8, "later", "(II)I"⟩
abbrev cX8_fade : ByteArray := prog_1_method_13_code
def yX8_fade : MethodName := ⟨RX8, "fade", "(I)I"⟩
abbrev cX8_soonest : ByteArray := prog_1_method_14_code
def yX8_soonest : MethodName := ⟨RX8, "soonest", "(I)I"⟩
abbrev cX8_dip : ByteArray := prog_1_method_15_code
def yX8_dip : MethodName := ⟨RX8, "dip", "(II)I"⟩
abbrev cX8_missed : ByteArray := prog_1_method_16_code
def yX8_missed : MethodName := ⟨RX8, "missed", "()I"⟩
abbrev cX8_share : ByteArray := prog_1_method_17_code
def yX8_share : MethodName := ⟨RX8, "share", "(I)I"⟩
abbrev cX8_all : ByteArray := prog_1_method_18_code
def yX8_all : MethodName := ⟨RX8, "all", "(I)I"⟩
abbrev cX8_thinned : ByteArray := prog_1_method_19_code
def yX8_thinned : MethodName := ⟨RX8, "thinned", "(IIII)I"⟩
abbrev cX8_outflows : ByteArray := prog_1_method_20_code
def yX8_outflows : MethodName := ⟨RX8, "outflows", "()I"⟩
abbrev cX8_outflow : ByteArray := prog_1_method_21_code
def yX8_outflow : MethodName := ⟨RX8, "outflow", "(I)I"⟩
abbrev cX8_brief : ByteArray := prog_1_method_22_code
def yX8_brief : MethodName := ⟨RX8, "brief", "(I)I"⟩
abbrev cX8_write : ByteArray := prog_1_method_23_code
def yX8_write : MethodName := ⟨RX8, "write", "(I)I"⟩
abbrev cX8_pour : ByteArray := prog_1_method_24_code
def yX8_pour : MethodName := ⟨RX8, "pour", "(I)I"⟩
abbrev cX8_seasons : ByteArray := prog_1_method_25_code
def yX8_seasons : MethodName := ⟨RX8, "seasons", "(I)I"⟩
abbrev cX8_years : ByteArray := prog_1_method_26_code
def yX8_years : MethodName := ⟨RX8, "years", "(I)I"⟩
abbrev cX8_undo : ByteArray := prog_1_method_27_code
def yX8_undo : MethodName := ⟨RX8, "undo", "()Z"⟩
abbrev cX8_seed : ByteArray := prog_1_method_28_code
def yX8_seed : MethodName := ⟨RX8, "seed", "(I)Z"⟩
abbrev cX8_ask : ByteArray := prog_1_method_29_code
def yX8_ask : MethodName := ⟨RX8, "ask", "()J"⟩
abbrev cX8_image : ByteArray := prog_1_method_30_code
def yX8_image : MethodName := ⟨RX8, "image", "()I"⟩
abbrev cX8_octet : ByteArray := prog_1_method_31_code
def yX8_octet : MethodName := ⟨RX8, "octet", "(I)I"⟩
abbrev cX8_on : ByteArray := prog_1_method_32_code
def yX8_on : MethodName := ⟨RX8, "on", "()Z"⟩
abbrev cX8_status : ByteArray := prog_1_method_33_code
def yX8_status : MethodName := ⟨RX8, "status", "(I)I"⟩
abbrev cX8_refuse : ByteArray := prog_1_method_34_code
def yX8_refuse : MethodName := ⟨RX8, "refuse", "(I)I"⟩
abbrev cX8_putNumber : ByteArray := prog_1_method_35_code
def yX8_putNumber : MethodName := ⟨RX8, "putNumber", "(I)V"⟩
abbrev cX8_takeTape : ByteArray := prog_1_method_36_code
def yX8_takeTape : MethodName := ⟨RX8, "takeTape", "()I"⟩
abbrev cX8_pairAt : ByteArray := prog_1_method_37_code
def yX8_pairAt : MethodName := ⟨RX8, "pairAt", "(I)I"⟩
abbrev cX8_isDeed : ByteArray := prog_1_method_38_code
def yX8_isDeed : MethodName := ⟨RX8, "isDeed", "(I)Z"⟩
abbrev cX8_isNoAmount : ByteArray := prog_1_method_39_code
def yX8_isNoAmount : MethodName := ⟨RX8, "isNoAmount", "(I)Z"⟩
abbrev cX8_seasonsAhead : ByteArray := prog_1_method_40_code
def yX8_seasonsAhead : MethodName := ⟨RX8, "seasonsAhead", "()I"⟩
abbrev cX8_canPass : ByteArray := prog_1_method_41_code
def yX8_canPass : MethodName := ⟨RX8, "canPass", "(I)Z"⟩
abbrev cX8_tellsOutflow : ByteArray := prog_1_method_42_code
def yX8_tellsOutflow : MethodName := ⟨RX8, "tellsOutflow", "(II)Z"⟩
abbrev cX8_chooseFrom : ByteArray := prog_1_method_43_code
def yX8_chooseFrom : MethodName := ⟨RX8, "chooseFrom", "(I)V"⟩
abbrev cX8_keep : ByteArray := prog_1_method_44_code
def yX8_keep : MethodName := ⟨RX8, "keep", "(II)V"⟩
abbrev cX8_drawDryBrooks : ByteArray := prog_1_method_45_code
def yX8_drawDryBrooks : MethodName := ⟨RX8, "drawDryBrooks", "()I"⟩
abbrev cX8_drawOfHundred : ByteArray := prog_1_method_46_code
def yX8_drawOfHundred : MethodName := ⟨RX8, "drawOfHundred", "()I"⟩
abbrev cX8_reckonAsked : ByteArray := prog_1_method_47_code
def yX8_reckonAsked : MethodName := ⟨RX8, "reckonAsked", "(I)I"⟩
abbrev cX8_answerTest : ByteArray := prog_1_method_48_code
def yX8_answerTest : MethodName := ⟨RX8, "answerTest", "(I)J"⟩
abbrev cX8_answerSum : ByteArray := prog_1_method_49_code
def yX8_answerSum : MethodName := ⟨RX8, "answerSum", "(I)J"⟩
abbrev cX8_putOctet : ByteArray := prog_1_method_50_code
def yX8_putOctet : MethodName := ⟨RX8, "putOctet", "(I)V"⟩
abbrev cX8_putPair : ByteArray := prog_1_method_51_code
def yX8_putPair : MethodName := ⟨RX8, "putPair", "(I)V"⟩
abbrev cX8_checkOf : ByteArray := prog_1_method_52_code
def yX8_checkOf : MethodName := ⟨RX8, "checkOf", "([II)I"⟩
abbrev cX8_isImage : ByteArray := prog_1_method_53_code
def yX8_isImage : MethodName := ⟨RX8, "isImage", "(I)Z"⟩
abbrev cX8_isDeedImage : ByteArray := prog_1_method_54_code
def yX8_isDeedImage : MethodName := ⟨RX8, "isDeedImage", "(I)Z"⟩
def RX9 : String := "InkLakeModel"
def TX9 : u_T := fun k => match k with
  | 0 => ("InkLakeModel", "tape", "[I", true)
  | 1 => ("InkLakeModel", "taped", "I", false)
  | 2 => ("InkLakeModel", "at", "I", false)
  | 3 => ("InkLakeModel", "end", "I", false)
  | 4 => ("InkLakeModel", "ended", "I", false)
  | 5 => ("InkLakeModel", "bad", "I", false)
  | 6 => ("InkLakeModel", "badPlace", "I", false)
  | 7 => ("InkLakeModel", "fault", "I", false)
  | 8 => ("InkLakeModel", "faultPlace", "I", false)
  | 9 => ("InkLakeModel", "refused", "[I", true)
  | 10 => ("InkLakeModel", "numberPlace", "I", false)
  | 11 => ("InkLakeModel", "lakeWord", "[C", true)
  | 12 => ("InkLakeModel", "hasWord", "[C", true)
  | 13 => ("InkLakeModel", "blackWord", "[C", true)
  | 14 => ("InkLakeModel", "holdsWord", "[C", true)
  | 15 => ("InkLakeModel", "brookWord", "[C", true)
  | 16 => ("InkLakeModel", "givesWord", "[C", true)
  | 17 => ("InkLakeModel", "villageWord", "[C", true)
  | 18 => ("InkLakeModel", "milesWord", "[C", true)
  | 19 => ("InkLakeModel", "deedWord", "[C", true)
  | 20 => ("InkLakeModel", "ofWord", "[C", true)
  | 21 => ("InkLakeModel", "needsWord", "[C", true)
  | 22 => ("InkLakeModel", "worthWord", "[C", true)
  | 23 => ("InkLakeModel", "byWord", "[C", true)
  | 24 => ("InkLakeModel", "drawsWord", "[C", true)
  | 25 => ("InkLakeModel", "fadesWord", "[C", true)
  | 26 => ("InkLakeModel", "mayWord", "[C", true)
  | 27 => ("InkLakeModel", "driesWord", "[C", true)
  | 28 => ("InkLakeModel", "readsWord", "[C", true)
  | 29 => ("InkLakeModel", "droughtWord", "[C", true)
  | 30 => ("InkLakeModel", "seasonWord", "[C", true)
  | 31 => ("InkLakeModel", "levelWord", "[C", true)
  | 32 => ("InkLakeModel", "darkWord", "[C", true)
  | 33 => ("InkLakeModel", "inkWord", "[C", true)
  | 34 => ("InkLakeModel", "ageWord", "[C", true)
  | 35 => ("InkLakeModel", "numberWord", "[C", true)
  | 36 => ("InkLakeModel", "termWord", "[C", true)
  | 37 => ("InkLakeModel", "orWord", "[C", true)
  | 38 => ("InkLakeModel", "andWord", "[C", true)
  | 39 => ("InkLakeModel", "notWord", "[C", true)
  | 40 => ("InkLakeModel", "allWord", "[C", true)
  | 41 => ("InkLakeModel", "minWord", "[C", true)
  | 42 => ("InkLakeModel", "maxWord", "[C", true)
  | 43 => ("InkLakeModel", "namePlace", "I", false)
  | 44 => ("InkLakeModel", "many", "[I", true)
  | 45 => ("InkLakeModel", "names", "[J", true)
  | 46 => ("InkLakeModel", "lake0", "[I", true)
  | 47 => ("InkLakeModel", "brooks", "[I", true)
  | 48 => ("InkLakeModel", "far", "[I", true)
  | 49 => ("InkLakeModel", "deeds", "[I", true)
  | 50 => ("InkLakeModel", "settings", "[I", true)
  | 51 => ("InkLakeModel", "codeFrom", "[I", true)
  | 52 => ("InkLakeModel", "codeEnd", "[I", true)
  | 53 => ("InkLakeModel", "codes", "[I", true)
  | 54 => ("InkLakeModel", "coded", "I", false)
  | 55 => ("InkLakeModel", "statements", "I", false)
  | 56 => ("InkLakeModel", "isLake", "Z", false)
  | 57 => ("InkLakeModel", "textKind", "I", false)
  | 58 => ("InkLakeModel", "now", "[I", true)
  | 59 => ("InkLakeModel", "aside", "[I", true)
  | 60 => ("InkLakeModel", "askDraws", "[J", true)
  | 61 => ("InkLakeModel", "isThought", "Z", false)
  | 62 => ("InkLakeModel", "fading", "[I", true)
  | 63 => ("InkLakeModel", "over", "I", false)
  | 64 => ("InkLakeModel", "foundAt", "I", false)
  | 65 => ("InkLakeModel", "foundDark", "I", false)
  | 66 => ("InkLakeModel", "rows", "[I", true)
  | 67 => ("InkLakeModel", "flowLeast", "I", false)
  | 68 => ("InkLakeModel", "flowMost", "I", false)
  | 69 => ("InkLakeModel", "kept0", "[I", true)
  | 70 => ("InkLakeModel", "undoable", "I", false)
  | 71 => ("InkLakeModel", "newest", "I", false)
  | 72 => ("InkLakeModel", "seeded", "J", false)
  | 73 => ("InkLakeModel", "firstAsked", "[C", true)
  | 74 => ("InkLakeModel", "lastAsked", "[C", true)
  | 75 => ("InkLakeModel", "oftenAsked", "[C", true)
  | 76 => ("InkLakeModel", "totalAsked", "[C", true)
  | 77 => ("InkLakeModel", "mostAsked", "[C", true)
  | 78 => ("InkLakeModel", "leastAsked", "[C", true)
  | 79 => ("InkLakeModel", "notAsked", "[C", true)
  | 80 => ("InkLakeModel", "andAsked", "[C", true)
  | 81 => ("InkLakeModel", "orAsked", "[C", true)
  | 82 => ("InkLakeModel", "allAsked", "[C", true)
  | 83 => ("InkLakeModel", "minAsked", "[C", true)
  | 84 => ("InkLakeModel", "maxAsked", "[C", true)
  | 85 => ("InkLakeModel", "needsAsked", "[C", true)
  | 86 => ("InkLakeModel", "worthAsked", "[C", true)
  | 87 => ("InkLakeModel", "milesAsked", "[C", true)
  | 88 => ("InkLakeModel", "seasonAsked", "[C", true)
  | 89 => ("InkLakeModel", "levelAsked", "[C", true)
  | 90 => ("InkLakeModel", "darkAsked", "[C", true)
  | 91 => ("InkLakeModel", "inkAsked", "[C", true)
  | 92 => ("InkLakeModel", "ageAsked", "[C", true)
  | 93 => ("InkLakeModel", "numberAsked", "[C", true)
  | 94 => ("InkLakeModel", "termAsked", "[C", true)
  | 95 => ("InkLakeModel", "drawsAsked", "[C", true)
  | 96 => ("InkLakeModel", "byAsked", "[C", true)
  | 97 => ("InkLakeModel", "qCodes", "[I", true)
  | 98 => ("InkLakeModel", "qCoded", "I", false)
  | 99 => ("InkLakeModel", "qWait", "[I", true)
  | 100 => ("InkLakeModel", "qWaits", "I", false)
  | 101 => ("InkLakeModel", "qOpened", "I", false)
  | 102 => ("InkLakeModel", "qBase", "I", false)
  | 103 => ("InkLakeModel", "qPile", "[J", true)
  | 104 => ("InkLakeModel", "qPiled", "I", false)
  | 105 => ("InkLakeModel", "qAnswer", "J", false)
  | 106 => ("InkLakeModel", "qIsNew", "Z", false)
  | 107 => ("InkLakeModel", "octet", "[I", true)
  | _ => ("InkLakeModel", "octets", "I", false)
def tyX9 : Nat → FieldType := fun k => match k with
  | 0 => .array .int
  | 1 => .int
  | 2 => .int
  | 3 => .int
  | 4 => .int
  | 5 => .int
  | 6 => .int
  | 7 => .int
  | 8 => .int
  | 9 => .array .int
  | 10 => .int
  | 11 => .array .char
  | 12 => .array .char
  | 13 => .array .char
  | 14 => .array .char
  | 15 => .array .char
  | 16 => .array .char
  | 17 => .array .char
  | 18 => .array .char
  | 19 => .array .char
  | 20 => .array .char
  | 21 => .array .char
  | 22 => .array .char
  | 23 => .array .char
  | 24 => .array .char
  | 25 => .array .char
  | 26 => .array .char
  | 27 => .array .char
  | 28 => .array .char
  | 29 => .array .char
  | 30 => .array .char
  | 31 => .array .char
  | 32 => .array .char
  | 33 => .array .char
  | 34 => .array .char
  | 35 => .array .char
  | 36 => .array .char
  | 37 => .array .char
  | 38 => .array .char
  | 39 => .array .char
  | 40 => .array .char
  | 41 => .array .char
  | 42 => .array .char
  | 43 => .int
  | 44 => .array .int
  | 45 => .array .long
  | 46 => .array .int
  | 47 => .array .int
  | 48 => .array .int
  | 49 => .array .int
  | 50 => .array .int
  | 51 => .array .int
  | 52 => .array .int
  | 53 => .array .int
  | 54 => .int
  | 55 => .int
  | 56 => .boolean
  | 57 => .int
  | 58 => .array .int
  | 59 => .array .int
  | 60 => .array .long
  | 61 => .boolean
  | 62 => .array .int
  | 63 => .int
  | 64 => .int
  | 65 => .int
  | 66 => .array .int
  | 67 => .int
  | 68 => .int
  | 69 => .array .int
  | 70 => .int
  | 71 => .int
  | 72 => .long
  | 73 => .array .char
  | 74 => .array .char
  | 75 => .array .char
  | 76 => .array .char
  | 77 => .array .char
  | 78 => .array .char
  | 79 => .array .char
  | 80 => .array .char
  | 81 => .array .char
  | 82 => .array .char
  | 83 => .array .char
  | 84 => .array .char
  | 85 => .array .char
  | 86 => .array .char
  | 87 => .array .char
  | 88 => .array .char
  | 89 => .array .char
  | 90 => .array .char
  | 91 => .array .char
  | 92 => .array .char
  | 93 => .array .char
  | 94 => .array .char
  | 95 => .array .char
  | 96 => .array .char
  | 97 => .array .int
  | 98 => .int
  | 99 => .array .int
  | 100 => .int
  | 101 => .int
  | 102 => .int
  | 103 => .array .long
  | 104 => .int
  | 105 => .long
  | 106 => .boolean
  | 107 => .array .int
  | _ => .int
theorem nmX9 : ∀ a, a < 109 → ∀ b, b < 109 → a ≠ b → (TX9 a).2.1 ≠ (TX9 b).2.1 := by decide +kernel
theorem tyX9_ok : ∀ k, k < 109 → parseFieldDescriptor (TX9 k).2.2.1 = some (tyX9 k) := by decide +kernel
abbrev cX9_init : ByteArray := prog_11_method_1_code
def yX9_init : MethodName := ⟨RX9, "<init>", "()V"⟩
abbrev cX9_isIn : ByteArray := prog_11_method_2_code
def yX9_isIn : MethodName := ⟨RX9, "isIn", "(JJJ)Z"⟩
abbrev cX9_feed : ByteArray := prog_11_method_3_code
def yX9_feed : MethodName := ⟨RX9, "feed", "(IIIII)I"⟩
abbrev cX9_end : ByteArray := prog_11_method_4_code
def yX9_end : MethodName := ⟨RX9, "end", "(I)Z"⟩
abbrev cX9_fail : ByteArray := prog_11_method_5_code
def yX9_fail : MethodName := ⟨RX9, "fail", "(II)V"⟩
abbrev cX9_isLetter : ByteArray := prog_11_method_6_code
def yX9_isLetter : MethodName := ⟨RX9, "isLetter", "(I)Z"⟩
abbrev cX9_isDigit : ByteArray := prog_11_method_7_code
def yX9_isDigit : MethodName := ⟨RX9, "isDigit", "(I)Z"⟩
abbrev cX9_look : ByteArray := prog_11_method_8_code
def yX9_look : MethodName := ⟨RX9, "look", "()I"⟩
abbrev cX9_isHere : ByteArray := prog_11_method_9_code
def yX9_isHere : MethodName := ⟨RX9, "isHere", "([C)Z"⟩
abbrev cX9_takes : ByteArray := prog_11_method_10_code
def yX9_takes : MethodName := ⟨RX9, "takes", "([C)Z"⟩
abbrev cX9_asks : ByteArray := prog_11_method_11_code
def yX9_asks : MethodName := ⟨RX9, "asks", "([C)V"⟩
abbrev cX9_takesSign : ByteArray := prog_11_method_12_code
def yX9_takesSign : MethodName := ⟨RX9, "takesSign", "(I)Z"⟩
abbrev cX9_asksSign : ByteArray := prog_11_method_13_code
def yX9_asksSign : MethodName := ⟨RX9, "asksSign", "(I)V"⟩
abbrev cX9_number : ByteArray := prog_11_method_14_code
def yX9_number : MethodName := ⟨RX9, "number", "(II)I"⟩
abbrev cX9_isOwnHere : ByteArray := prog_11_method_15_code
def yX9_isOwnHere : MethodName := ⟨RX9, "isOwnHere", "()Z"⟩
abbrev cX9_name : ByteArray := prog_11_method_16_code
def yX9_name : MethodName := ⟨RX9, "name", "()J"⟩
abbrev cX9_isAllowed : ByteArray := prog_11_method_17_code
def yX9_isAllowed : MethodName := ⟨RX9, "isAllowed", "(I)Z"⟩
abbrev cX9_isFull : ByteArray := prog_11_method_18_code
def yX9_isFull : MethodName := ⟨RX9, "isFull", "(III)Z"⟩
abbrev cX9_nameOf : ByteArray := prog_11_method_19_code
def yX9_nameOf : MethodName := ⟨RX9, "nameOf", "(IJ)I"⟩
abbrev cX9_newName : ByteArray := prog_11_method_20_code
def yX9_newName : MethodName := ⟨RX9, "newName", "()J"⟩
abbrev cX9_adds : ByteArray := prog_11_method_21_code
def yX9_adds : MethodName := ⟨RX9, "adds", "(IJ)I"⟩
abbrev cX9_lakeTold : ByteArray := prog_11_method_22_code
def yX9_lakeTold : MethodName := ⟨RX9, "lakeTold", "()V"⟩
abbrev cX9_brookTold : ByteArray := prog_11_method_23_code
def yX9_brookTold : MethodName := ⟨RX9, "brookTold", "(I)V"⟩
abbrev cX9_villageTold : ByteArray := prog_11_method_24_code
def yX9_villageTold : MethodName := ⟨RX9, "villageTold", "(I)V"⟩
abbrev cX9_deedTold : ByteArray := prog_11_method_25_code
def yX9_deedTold : MethodName := ⟨RX9, "deedTold", "(I)V"⟩
abbrev cX9_codesTold : ByteArray := prog_11_method_26_code
def yX9_codesTold : MethodName := ⟨RX9, "codesTold", "(II)V"⟩
abbrev cX9_statementTold : ByteArray := prog_11_method_27_code
def yX9_statementTold : MethodName := ⟨RX9, "statementTold", "()V"⟩
abbrev cX9_shore : ByteArray := prog_11_method_28_code
def yX9_shore : MethodName := ⟨RX9, "shore", "()I"⟩
abbrev cX9_stands : ByteArray := prog_11_method_29_code
def yX9_stands : MethodName := ⟨RX9, "stands", "()V"⟩
abbrev cX9_fault : ByteArray := prog_11_method_30_code
def yX9_fault : MethodName := ⟨RX9, "fault", "(I)I"⟩
abbrev cX9_brookMany : ByteArray := prog_11_method_31_code
def yX9_brookMany : MethodName := ⟨RX9, "brookMany", "()I"⟩
abbrev cX9_villageMany : ByteArray := prog_11_method_32_code
def yX9_villageMany : MethodName := ⟨RX9, "villageMany", "()I"⟩
abbrev cX9_deedMany : ByteArray := prog_11_method_33_code
def yX9_deedMany : MethodName := ⟨RX9, "deedMany", "()I"⟩
abbrev cX9_isDeed : ByteArray := prog_11_method_34_code
def yX9_isDeed : MethodName := ⟨RX9, "isDeed", "(I)Z"⟩
abbrev cX9_isWritten : ByteArray := prog_11_method_35_code
def yX9_isWritten : MethodName := ⟨RX9, "isWritten", "(I)Z"⟩
abbrev cX9_inkOf : ByteArray := prog_11_method_36_code
def yX9_inkOf : MethodName := ⟨RX9, "inkOf", "(I)I"⟩
abbrev cX9_ageOf : ByteArray := prog_11_method_37_code
def yX9_ageOf : MethodName := ⟨RX9, "ageOf", "(I)I"⟩
abbrev cX9_termOf : ByteArray := prog_11_method_38_code
def yX9_termOf : MethodName := ⟨RX9, "termOf", "(I)I"⟩
abbrev cX9_holdsAll : ByteArray := prog_11_method_39_code
def yX9_holdsAll : MethodName := ⟨RX9, "holdsAll", "()I"⟩
abbrev cX9_cut : ByteArray := prog_11_method_40_code
def yX9_cut : MethodName := ⟨RX9, "cut", "(JI)I"⟩
abbrev cX9_darkNow : ByteArray := prog_11_method_41_code
def yX9_darkNow : MethodName := ⟨RX9, "darkNow", "()I"⟩
abbrev cX9_codesTell : ByteArray := prog_11_method_42_code
def yX9_codesTell : MethodName := ⟨RX9, "codesTell", "(II)J"⟩
abbrev cX9_drawnBy : ByteArray := prog_11_method_43_code
def yX9_drawnBy : MethodName := ⟨RX9, "drawnBy", "(I)I"⟩
abbrev cX9_canBe : ByteArray := prog_11_method_44_code
def yX9_canBe : MethodName := ⟨RX9, "canBe", "(I)Z"⟩
abbrev cX9_writesOne : ByteArray := prog_11_method_45_code
def yX9_writesOne : MethodName := ⟨RX9, "writesOne", "(I)I"⟩
abbrev cX9_isKept : ByteArray := prog_11_method_46_code
def yX9_isKept : MethodName := ⟨RX9, "isKept", "(III)V"⟩
abbrev cX9_seasonGoes : ByteArray := prog_11_method_47_code
def yX9_seasonGoes : MethodName := ⟨RX9, "seasonGoes", "(III)V"⟩
abbrev cX9_seasonsGo : ByteArray := prog_11_method_48_code
def yX9_seasonsGo : MethodName := ⟨RX9, "seasonsGo", "(I)V"⟩
abbrev cX9_putsAside : ByteArray := prog_11_method_49_code
def yX9_putsAside : MethodName := ⟨RX9, "putsAside", "()V"⟩
abbrev cX9_takesBack : ByteArray := prog_11_method_50_code
def yX9_takesBack : MethodName := ⟨RX9, "takesBack", "()V"⟩
abbrev cX9_triesAnew : ByteArray := prog_11_method_51_code
def yX9_triesAnew : MethodName := ⟨RX9, "triesAnew", "()V"⟩
abbrev cX9_isAhead : ByteArray := prog_11_method_52_code
def yX9_isAhead : MethodName := ⟨RX9, "isAhead", "(III)Z"⟩
abbrev cX9_canRead : ByteArray := prog_11_method_53_code
def yX9_canRead : MethodName := ⟨RX9, "canRead", "(I)Z"⟩
abbrev cX9_readable : ByteArray := prog_11_method_54_code
def yX9_readable : MethodName := ⟨RX9, "readable", "()I"⟩
abbrev cX9_bits : ByteArray := prog_11_method_55_code
def yX9_bits : MethodName := ⟨RX9, "bits", "(I)I"⟩
abbrev cX9_writtenMany : ByteArray := prog_11_method_56_code
def yX9_writtenMany : MethodName := ⟨RX9, "writtenMany", "()I"⟩
abbrev cX9_has : ByteArray := prog_11_method_57_code
def yX9_has : MethodName := ⟨RX9, "has", "(I)I"⟩
abbrev cX9_lettersOf : ByteArray := prog_11_method_58_code
def yX9_lettersOf : MethodName := ⟨RX9, "lettersOf", "(J)I"⟩
abbrev cX9_firstOf : ByteArray := prog_11_method_59_code
def yX9_firstOf : MethodName := ⟨RX9, "firstOf", "(JI)J"⟩
abbrev cX9_letter : ByteArray := prog_11_method_60_code
def yX9_letter : MethodName := ⟨RX9, "letter", "(III)I"⟩
abbrev cX9_brook : ByteArray := prog_11_method_61_code
def yX9_brook : MethodName := ⟨RX9, "brook", "(II)I"⟩
abbrev cX9_deed : ByteArray := prog_11_method_62_code
def yX9_deed : MethodName := ⟨RX9, "deed", "(II)I"⟩
abbrev cX9_miles : ByteArray := prog_11_method_63_code
def yX9_miles : MethodName := ⟨RX9, "miles", "(I)I"⟩
abbrev cX9_kept : ByteArray := prog_11_method_64_code
def yX9_kept : MethodName := ⟨RX9, "kept", "(II)I"⟩
abbrev cX9_later : ByteArray := prog_11_method_65_code
def yX9_later : MethodName := ⟨RX9, "later", "(II)I"⟩
abbrev cX9_fade : ByteArray := prog_11_method_66_code
def yX9_fade : MethodName := ⟨RX9, "fade", "(I)I"⟩
abbrev cX9_finds : ByteArray := prog_11_method_67_code
def yX9_finds : MethodName := ⟨RX9, "finds", "(IZ)V"⟩
abbrev cX9_soonest : ByteArray := prog_11_method_68_code
def yX9_soonest : MethodName := ⟨RX9, "soonest", "(I)I"⟩
abbrev cX9_dip : ByteArray := prog_11_method_69_code
def yX9_dip : MethodName := ⟨RX9, "dip", "(II)I"⟩
abbrev cX9_missed : ByteArray := prog_11_method_70_code
def yX9_missed : MethodName := ⟨RX9, "missed", "()I"⟩
abbrev cX9_worthOf : ByteArray := prog_11_method_71_code
def yX9_worthOf : MethodName := ⟨RX9, "worthOf", "(I)I"⟩
abbrev cX9_writesAll : ByteArray := prog_11_method_72_code
def yX9_writesAll : MethodName := ⟨RX9, "writesAll", "(I)I"⟩
abbrev cX9_share : ByteArray := prog_11_method_73_code
def yX9_share : MethodName := ⟨RX9, "share", "(I)I"⟩
abbrev cX9_all : ByteArray := prog_11_method_74_code
def yX9_all : MethodName := ⟨RX9, "all", "(I)I"⟩
abbrev cX9_thinned : ByteArray := prog_11_method_75_code
def yX9_thinned : MethodName := ⟨RX9, "thinned", "(IIII)I"⟩
abbrev cX9_isFlow : ByteArray := prog_11_method_76_code
def yX9_isFlow : MethodName := ⟨RX9, "isFlow", "(II)Z"⟩
abbrev cX9_refuses : ByteArray := prog_11_method_77_code
def yX9_refuses : MethodName := ⟨RX9, "refuses", "(I)I"⟩
abbrev cX9_outflows : ByteArray := prog_11_method_78_code
def yX9_outflows : MethodName := ⟨RX9, "outflows", "()I"⟩
abbrev cX9_outflow : ByteArray := prog_11_method_79_code
def yX9_outflow : MethodName := ⟨RX9, "outflow", "(I)I"⟩
abbrev cX9_beginsSo : ByteArray := prog_11_method_80_code
def yX9_beginsSo : MethodName := ⟨RX9, "beginsSo", "(II)Z"⟩
abbrev cX9_brief : ByteArray := prog_11_method_81_code
def yX9_brief : MethodName := ⟨RX9, "brief", "(I)I"⟩
abbrev cX9_keeps : ByteArray := prog_11_method_82_code
def yX9_keeps : MethodName := ⟨RX9, "keeps", "()V"⟩
abbrev cX9_undo : ByteArray := prog_11_method_83_code
def yX9_undo : MethodName := ⟨RX9, "undo", "()Z"⟩
abbrev cX9_write : ByteArray := prog_11_method_84_code
def yX9_write : MethodName := ⟨RX9, "write", "(I)I"⟩
abbrev cX9_pour : ByteArray := prog_11_method_85_code
def yX9_pour : MethodName := ⟨RX9, "pour", "(I)I"⟩
abbrev cX9_seasons : ByteArray := prog_11_method_86_code
def yX9_seasons : MethodName := ⟨RX9, "seasons", "(I)I"⟩
abbrev cX9_seed : ByteArray := prog_11_method_87_code
def yX9_seed : MethodName := ⟨RX9, "seed", "(I)Z"⟩
abbrev cX9_drawOf : ByteArray := prog_11_method_88_code
def yX9_drawOf : MethodName := ⟨RX9, "drawOf", "(I)I"⟩
abbrev cX9_years : ByteArray := prog_11_method_89_code
def yX9_years : MethodName := ⟨RX9, "years", "(I)I"⟩
abbrev cX9_qCode : ByteArray := prog_11_method_90_code
def yX9_qCode : MethodName := ⟨RX9, "qCode", "(I)V"⟩
abbrev cX9_qOpens : ByteArray := prog_11_method_91_code
def yX9_qOpens : MethodName := ⟨RX9, "qOpens", "(II)V"⟩
abbrev cX9_qIsOn : ByteArray := prog_11_method_92_code
def yX9_qIsOn : MethodName := ⟨RX9, "qIsOn", "(I)Z"⟩
abbrev cX9_qDrops : ByteArray := prog_11_method_93_code
def yX9_qDrops : MethodName := ⟨RX9, "qDrops", "()V"⟩
abbrev cX9_qIsBracket : ByteArray := prog_11_method_94_code
def yX9_qIsBracket : MethodName := ⟨RX9, "qIsBracket", "(I)Z"⟩
abbrev cX9_qBracket : ByteArray := prog_11_method_95_code
def yX9_qBracket : MethodName := ⟨RX9, "qBracket", "()I"⟩
abbrev cX9_qDropsToBracket : ByteArray := prog_11_method_96_code
def yX9_qDropsToBracket : MethodName := ⟨RX9, "qDropsToBracket", "()V"⟩
abbrev cX9_qWordHere : ByteArray := prog_11_method_97_code
def yX9_qWordHere : MethodName := ⟨RX9, "qWordHere", "()I"⟩
abbrev cX9_qWordOf : ByteArray := prog_11_method_98_code
def yX9_qWordOf : MethodName := ⟨RX9, "qWordOf", "(II)I"⟩
abbrev cX9_qAsksWord : ByteArray := prog_11_method_99_code
def yX9_qAsksWord : MethodName := ⟨RX9, "qAsksWord", "(I)V"⟩
abbrev cX9_qEndsPart : ByteArray := prog_11_method_100_code
def yX9_qEndsPart : MethodName := ⟨RX9, "qEndsPart", "()V"⟩
abbrev cX9_qPartTold : ByteArray := prog_11_method_101_code
def yX9_qPartTold : MethodName := ⟨RX9, "qPartTold", "()V"⟩
abbrev cX9_qGoesOn : ByteArray := prog_11_method_102_code
def yX9_qGoesOn : MethodName := ⟨RX9, "qGoesOn", "()Z"⟩
abbrev cX9_qSums : ByteArray := prog_11_method_103_code
def yX9_qSums : MethodName := ⟨RX9, "qSums", "()V"⟩
abbrev cX9_qFact : ByteArray := prog_11_method_104_code
def yX9_qFact : MethodName := ⟨RX9, "qFact", "()V"⟩
abbrev cX9_qHasSquare : ByteArray := prog_11_method_105_code
def yX9_qHasSquare : MethodName := ⟨RX9, "qHasSquare", "()Z"⟩
abbrev cX9_qDropsNots : ByteArray := prog_11_method_106_code
def yX9_qDropsNots : MethodName := ⟨RX9, "qDropsNots", "()V"⟩
abbrev cX9_qTest : ByteArray := prog_11_method_107_code
def yX9_qTest : MethodName := ⟨RX9, "qTest", "()V"⟩
abbrev cX9_qGoesOnTest : ByteArray := prog_11_method_108_code
def yX9_qGoesOnTest : MethodName := ⟨RX9, "qGoesOnTest", "()Z"⟩
abbrev cX9_qClip : ByteArray := prog_11_method_109_code
def yX9_qClip : MethodName := ⟨RX9, "qClip", "(J)J"⟩
abbrev cX9_qFloor : ByteArray := prog_11_method_110_code
def yX9_qFloor : MethodName := ⟨RX9, "qFloor", "(JJ)J"⟩
abbrev cX9_qPuts : ByteArray := prog_11_method_111_code
def yX9_qPuts : MethodName := ⟨RX9, "qPuts", "(J)V"⟩
abbrev cX9_qJoins : ByteArray := prog_11_method_112_code
def yX9_qJoins : MethodName := ⟨RX9, "qJoins", "(I)V"⟩
abbrev cX9_qPartOf : ByteArray := prog_11_method_113_code
def yX9_qPartOf : MethodName := ⟨RX9, "qPartOf", "(II)J"⟩
abbrev cX9_qOf : ByteArray := prog_11_method_114_code
def yX9_qOf : MethodName := ⟨RX9, "qOf", "(IJI)J"⟩
abbrev cX9_qTold : ByteArray := prog_11_method_115_code
def yX9_qTold : MethodName := ⟨RX9, "qTold", "(I)J"⟩
abbrev cX9_qKind : ByteArray := prog_11_method_116_code
def yX9_qKind : MethodName := ⟨RX9, "qKind", "()I"⟩
abbrev cX9_qTakes : ByteArray := prog_11_method_117_code
def yX9_qTakes : MethodName := ⟨RX9, "qTakes", "(IJI)V"⟩
abbrev cX9_ask : ByteArray := prog_11_method_118_code
def yX9_ask : MethodName := ⟨RX9, "ask", "()J"⟩
abbrev cX9_checked : ByteArray := prog_11_method_119_code
def yX9_checked : MethodName := ⟨RX9, "checked", "([II)I"⟩
abbrev cX9_writes : ByteArray := prog_11_method_120_code
def yX9_writes : MethodName := ⟨RX9, "writes", "(I)V"⟩
abbrev cX9_writesTwo : ByteArray := prog_11_method_121_code
def yX9_writesTwo : MethodName := ⟨RX9, "writesTwo", "(I)V"⟩
abbrev cX9_image : ByteArray := prog_11_method_122_code
def yX9_image : MethodName := ⟨RX9, "image", "()I"⟩
abbrev cX9_octet : ByteArray := prog_11_method_123_code
def yX9_octet : MethodName := ⟨RX9, "octet", "(I)I"⟩
abbrev cX9_twoAt : ByteArray := prog_11_method_124_code
def yX9_twoAt : MethodName := ⟨RX9, "twoAt", "(I)I"⟩
abbrev cX9_isDeedTold : ByteArray := prog_11_method_125_code
def yX9_isDeedTold : MethodName := ⟨RX9, "isDeedTold", "(I)Z"⟩
abbrev cX9_isImage : ByteArray := prog_11_method_126_code
def yX9_isImage : MethodName := ⟨RX9, "isImage", "(I)Z"⟩
abbrev cX9_on : ByteArray := prog_11_method_127_code
def yX9_on : MethodName := ⟨RX9, "on", "()Z"⟩
abbrev cX9_status : ByteArray := prog_11_method_128_code
def yX9_status : MethodName := ⟨RX9, "status", "(I)I"⟩
def RJ6 : String := "java/lang/Integer"
def TJ6 : u_T := fun k => match k with
  | _ => ("", "", "", false)
def tyJ6 : Nat → FieldType := fun k => match k with
  | _ => .int
theorem nmJ6 : ∀ a, a < 0 → ∀ b, b < 0 → a ≠ b → (TJ6 a).2.1 ≠ (TJ6 b).2.1 := by decide +kernel
theorem tyJ6_ok : ∀ k, k < 0 → parseFieldDescriptor (TJ6 k).2.2.1 = some (tyJ6 k) := by decide +kernel
abbrev cJ6_bitCount_0f7a4 : ByteArray := prog_12_method_49_code
def yJ6_bitCount_0f7a4 : MethodName := ⟨RJ6, "bitCount", "(I)I"⟩
def RJ9 : String := "java/lang/Math"
def TJ9 : u_T := fun k => match k with
  | _ => ("", "", "", false)
def tyJ9 : Nat → FieldType := fun k => match k with
  | _ => .int
theorem nmJ9 : ∀ a, a < 0 → ∀ b, b < 0 → a ≠ b → (TJ9 a).2.1 ≠ (TJ9 b).2.1 := by decide +kernel
theorem tyJ9_ok : ∀ k, k < 0 → parseFieldDescriptor (TJ9 k).2.2.1 = some (tyJ9 k) := by decide +kernel
abbrev cJ9_floorDiv_7cf53 : ByteArray := prog_13_method_47_code
def yJ9_floorDiv_7cf53 : MethodName := ⟨RJ9, "floorDiv", "(II)I"⟩
abbrev cJ9_max_7cf53 : ByteArray := prog_13_method_65_code
def yJ9_max_7cf53 : MethodName := ⟨RJ9, "max", "(II)I"⟩
abbrev cJ9_min_7cf53 : ByteArray := prog_13_method_69_code
def yJ9_min_7cf53 : MethodName := ⟨RJ9, "min", "(II)I"⟩
def RJ0 : String := "java/lang/String"
def TJ0 : u_T := fun k => match k with
  | _ => ("", "", "", false)
def tyJ0 : Nat → FieldType := fun k => match k with
  | _ => .int
theorem nmJ0 : ∀ a, a < 0 → ∀ b, b < 0 → a ≠ b → (TJ0 a).2.1 ≠ (TJ0 b).2.1 := by decide +kernel
theorem tyJ0_ok : ∀ k, k < 0 → parseFieldDescriptor (TJ0 k).2.2.1 = some (tyJ0 k) := by decide +kernel
abbrev cJ0_length_8abf5 : ByteArray := prog_14_method_54_code
def yJ0_length_8abf5 : MethodName := ⟨RJ0, "length", "()I"⟩
abbrev cJ0_charAt_5068e : ByteArray := prog_14_method_56_code
def yJ0_charAt_5068e : MethodName := ⟨RJ0, "charAt", "(I)C"⟩
abbrev cJ0_coder_7d493 : ByteArray := prog_14_method_152_code
def yJ0_coder_7d493 : MethodName := ⟨RJ0, "coder", "()B"⟩
abbrev cJ0_isLatin1_aae02 : ByteArray := prog_14_method_154_code
def yJ0_isLatin1_aae02 : MethodName := ⟨RJ0, "isLatin1", "()Z"⟩
abbrev cJ0_checkIndex_df160 : ByteArray := prog_14_method_155_code
def yJ0_checkIndex_df160 : MethodName := ⟨RJ0, "checkIndex", "(II)V"⟩
def RJ1 : String := "java/lang/StringLatin1"
def TJ1 : u_T := fun k => match k with
  | _ => ("", "", "", false)
def tyJ1 : Nat → FieldType := fun k => match k with
  | _ => .int
theorem nmJ1 : ∀ a, a < 0 → ∀ b, b < 0 → a ≠ b → (TJ1 a).2.1 ≠ (TJ1 b).2.1 := by decide +kernel
theorem tyJ1_ok : ∀ k, k < 0 → parseFieldDescriptor (TJ1 k).2.2.1 = some (tyJ1 k) := by decide +kernel
abbrev cJ1_charAt_3b067 : ByteArray := prog_15_method_2_code
def yJ1_charAt_3b067 : MethodName := ⟨RJ1, "charAt", "([BI)C"⟩
def RJ2 : String := "java/lang/StringUTF16"
def TJ2 : u_T := fun k => match k with
  | _ => ("", "", "", false)
def tyJ2 : Nat → FieldType := fun k => match k with
  | _ => .int
theorem nmJ2 : ∀ a, a < 0 → ∀ b, b < 0 → a ≠ b → (TJ2 a).2.1 ≠ (TJ2 b).2.1 := by decide +kernel
theorem tyJ2_ok : ∀ k, k < 0 → parseFieldDescriptor (TJ2 k).2.2.1 = some (tyJ2 k) := by decide +kernel
abbrev cJ2_getChar_3b067 : ByteArray := prog_16_method_5_code
def yJ2_getChar_3b067 : MethodName := ⟨RJ2, "getChar", "([BI)C"⟩
abbrev cJ2_length_9d52b : ByteArray := prog_16_method_6_code
def yJ2_length_9d52b : MethodName := ⟨RJ2, "length", "([B)I"⟩
abbrev cJ2_charAt_3b067 : ByteArray := prog_16_method_83_code
def yJ2_charAt_3b067 : MethodName := ⟨RJ2, "charAt", "([BI)C"⟩
abbrev cJ2_checkIndex_2214a : ByteArray := prog_16_method_91_code
def yJ2_checkIndex_2214a : MethodName := ⟨RJ2, "checkIndex", "(I[B)V"⟩
def RJ10 : String := "java/lang/System"
def TJ10 : u_T := fun k => match k with
  | _ => ("", "", "", false)
def tyJ10 : Nat → FieldType := fun k => match k with
  | _ => .int
theorem nmJ10 : ∀ a, a < 0 → ∀ b, b < 0 → a ≠ b → (TJ10 a).2.1 ≠ (TJ10 b).2.1 := by decide +kernel
theorem tyJ10_ok : ∀ k, k < 0 → parseFieldDescriptor (TJ10 k).2.2.1 = some (tyJ10 k) := by decide +kernel
def RJ3 : String := "jdk/internal/util/Preconditions"
def TJ3 : u_T := fun k => match k with
  | _ => ("", "", "", false)
def tyJ3 : Nat → FieldType := fun k => match k with
  | _ => .int
theorem nmJ3 : ∀ a, a < 0 → ∀ b, b < 0 → a ≠ b → (TJ3 a).2.1 ≠ (TJ3 b).2.1 := by decide +kernel
theorem tyJ3_ok : ∀ k, k < 0 → parseFieldDescriptor (TJ3 k).2.2.1 = some (tyJ3 k) := by decide +kernel
abbrev cJ3_checkIndex_8e157 : ByteArray := prog_18_method_11_code
def yJ3_checkIndex_8e157 : MethodName := ⟨RJ3, "checkIndex", "(IILjava/util/function/BiFunction;)I"⟩
def RL : String := "InkLakeLaw"
abbrev cL_law : ByteArray := code
def yL_law : MethodName := ⟨RL, "law", "([I)Z"⟩
abbrev vwCl : List vw_C := [(RX0, TX0, 3), (RX1, TX1, 7), (RX2, TX2, 4), (RX3, TX3, 9), (RX4, TX4, 3), (RX5, TX5, 7), (RX6, TX6, 17), (RX7, TX7, 4), (RX8, TX8, 18), (RX9, TX9, 109)]
