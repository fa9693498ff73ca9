-- ===== PART A: goes FIRST, ahead of the names: the tables' words, and 'selects' of the private methods out of them =====
/-- a private method of a class that the tables say can be made, by its rows of tables_1 -/
def lw_okq (q : MethodName × Nat) : Prop := (q.1.cls ≠ "java/lang/invoke/MethodHandle" ∧ q.1.cls ≠ "java/lang/invoke/VarHandle") ∧ Cond.instantiable q.1.cls q.2 ∈ tables_1 ∧ Cond.privateMethod q.1 ∈ tables_1 ∧ Cond.instanceMethod q.1 ∈ tables_1
theorem lw_p0 : lw_okq (⟨"RumourRent$Reader", "next", "()V"⟩, 10) := ⟨⟨by decide +kernel, by decide +kernel⟩, List.mem_of_getElem? (i := 227) (by decide +kernel), List.mem_of_getElem? (i := 463) (by decide +kernel), List.mem_of_getElem? (i := 464) (by decide +kernel)⟩
theorem lw_p1 : lw_okq (⟨"RumourRent$Reader", "nextWord", "()V"⟩, 10) := ⟨⟨by decide +kernel, by decide +kernel⟩, List.mem_of_getElem? (i := 227) (by decide +kernel), List.mem_of_getElem? (i := 470) (by decide +kernel), List.mem_of_getElem? (i := 471) (by decide +kernel)⟩
theorem lw_p2 : lw_okq (⟨"RumourRent$Reader", "nextNumber", "()V"⟩, 10) := ⟨⟨by decide +kernel, by decide +kernel⟩, List.mem_of_getElem? (i := 227) (by decide +kernel), List.mem_of_getElem? (i := 518) (by decide +kernel), List.mem_of_getElem? (i := 519) (by decide +kernel)⟩
theorem lw_p3 : lw_okq (⟨"RumourRent$Reader", "nextSign", "()V"⟩, 10) := ⟨⟨by decide +kernel, by decide +kernel⟩, List.mem_of_getElem? (i := 227) (by decide +kernel), List.mem_of_getElem? (i := 525) (by decide +kernel), List.mem_of_getElem? (i := 526) (by decide +kernel)⟩
theorem lw_p4 : lw_okq (⟨"RumourRent$Reader", "faultOfClause", "(I)I"⟩, 10) := ⟨⟨by decide +kernel, by decide +kernel⟩, List.mem_of_getElem? (i := 227) (by decide +kernel), List.mem_of_getElem? (i := 594) (by decide +kernel), List.mem_of_getElem? (i := 595) (by decide +kernel)⟩
theorem lw_p5 : lw_okq (⟨"RumourRent$Reader", "fail", "(I)V"⟩, 10) := ⟨⟨by decide +kernel, by decide +kernel⟩, List.mem_of_getElem? (i := 227) (by decide +kernel), List.mem_of_getElem? (i := 602) (by decide +kernel), List.mem_of_getElem? (i := 603) (by decide +kernel)⟩
theorem lw_p6 : lw_okq (⟨"RumourRent$Reader", "readLaw", "(I)V"⟩, 10) := ⟨⟨by decide +kernel, by decide +kernel⟩, List.mem_of_getElem? (i := 227) (by decide +kernel), List.mem_of_getElem? (i := 606) (by decide +kernel), List.mem_of_getElem? (i := 607) (by decide +kernel)⟩
theorem lw_p7 : lw_okq (⟨"RumourRent$Reader", "readSum", "(I)V"⟩, 10) := ⟨⟨by decide +kernel, by decide +kernel⟩, List.mem_of_getElem? (i := 227) (by decide +kernel), List.mem_of_getElem? (i := 614) (by decide +kernel), List.mem_of_getElem? (i := 615) (by decide +kernel)⟩
theorem lw_p8 : lw_okq (⟨"RumourRent$Reader", "readProduct", "(I)V"⟩, 10) := ⟨⟨by decide +kernel, by decide +kernel⟩, List.mem_of_getElem? (i := 227) (by decide +kernel), List.mem_of_getElem? (i := 618) (by decide +kernel), List.mem_of_getElem? (i := 619) (by decide +kernel)⟩
theorem lw_p9 : lw_okq (⟨"RumourRent$Reader", "readOne", "(I)V"⟩, 10) := ⟨⟨by decide +kernel, by decide +kernel⟩, List.mem_of_getElem? (i := 227) (by decide +kernel), List.mem_of_getElem? (i := 622) (by decide +kernel), List.mem_of_getElem? (i := 623) (by decide +kernel)⟩
theorem lw_p10 : lw_okq (⟨"RumourRent$Reader", "readNumber", "(II)I"⟩, 10) := ⟨⟨by decide +kernel, by decide +kernel⟩, List.mem_of_getElem? (i := 227) (by decide +kernel), List.mem_of_getElem? (i := 626) (by decide +kernel), List.mem_of_getElem? (i := 627) (by decide +kernel)⟩
theorem lw_p11 : lw_okq (⟨"RumourRent$Reader", "readName", "()V"⟩, 10) := ⟨⟨by decide +kernel, by decide +kernel⟩, List.mem_of_getElem? (i := 227) (by decide +kernel), List.mem_of_getElem? (i := 635) (by decide +kernel), List.mem_of_getElem? (i := 636) (by decide +kernel)⟩
theorem lw_p12 : lw_okq (⟨"RumourRent$Reader", "readOpened", "(I)V"⟩, 10) := ⟨⟨by decide +kernel, by decide +kernel⟩, List.mem_of_getElem? (i := 227) (by decide +kernel), List.mem_of_getElem? (i := 639) (by decide +kernel), List.mem_of_getElem? (i := 640) (by decide +kernel)⟩
theorem lw_p13 : lw_okq (⟨"RumourRent$Reader", "expect", "(I)V"⟩, 10) := ⟨⟨by decide +kernel, by decide +kernel⟩, List.mem_of_getElem? (i := 227) (by decide +kernel), List.mem_of_getElem? (i := 643) (by decide +kernel), List.mem_of_getElem? (i := 644) (by decide +kernel)⟩
theorem lw_p14 : lw_okq (⟨"RumourRent$Reader", "readChoice", "(I)V"⟩, 10) := ⟨⟨by decide +kernel, by decide +kernel⟩, List.mem_of_getElem? (i := 227) (by decide +kernel), List.mem_of_getElem? (i := 647) (by decide +kernel), List.mem_of_getElem? (i := 648) (by decide +kernel)⟩
theorem lw_p15 : lw_okq (⟨"RumourRent$Reader", "readEither", "(I)V"⟩, 10) := ⟨⟨by decide +kernel, by decide +kernel⟩, List.mem_of_getElem? (i := 227) (by decide +kernel), List.mem_of_getElem? (i := 651) (by decide +kernel), List.mem_of_getElem? (i := 652) (by decide +kernel)⟩
def lw_privs_1 : List (MethodName × Nat) := [(⟨"RumourRent$Reader", "next", "()V"⟩, 10), (⟨"RumourRent$Reader", "nextWord", "()V"⟩, 10), (⟨"RumourRent$Reader", "nextNumber", "()V"⟩, 10), (⟨"RumourRent$Reader", "nextSign", "()V"⟩, 10), (⟨"RumourRent$Reader", "faultOfClause", "(I)I"⟩, 10), (⟨"RumourRent$Reader", "fail", "(I)V"⟩, 10), (⟨"RumourRent$Reader", "readLaw", "(I)V"⟩, 10), (⟨"RumourRent$Reader", "readSum", "(I)V"⟩, 10), (⟨"RumourRent$Reader", "readProduct", "(I)V"⟩, 10), (⟨"RumourRent$Reader", "readOne", "(I)V"⟩, 10), (⟨"RumourRent$Reader", "readNumber", "(II)I"⟩, 10), (⟨"RumourRent$Reader", "readName", "()V"⟩, 10), (⟨"RumourRent$Reader", "readOpened", "(I)V"⟩, 10), (⟨"RumourRent$Reader", "expect", "(I)V"⟩, 10), (⟨"RumourRent$Reader", "readChoice", "(I)V"⟩, 10), (⟨"RumourRent$Reader", "readEither", "(I)V"⟩, 10)]
theorem lw_r1 : ∀ q ∈ lw_privs_1, lw_okq q := List.forall_mem_cons.mpr ⟨lw_p0, List.forall_mem_cons.mpr ⟨lw_p1, List.forall_mem_cons.mpr ⟨lw_p2, List.forall_mem_cons.mpr ⟨lw_p3, List.forall_mem_cons.mpr ⟨lw_p4, List.forall_mem_cons.mpr ⟨lw_p5, List.forall_mem_cons.mpr ⟨lw_p6, List.forall_mem_cons.mpr ⟨lw_p7, List.forall_mem_cons.mpr ⟨lw_p8, List.forall_mem_cons.mpr ⟨lw_p9, List.forall_mem_cons.mpr ⟨lw_p10, List.forall_mem_cons.mpr ⟨lw_p11, List.forall_mem_cons.mpr ⟨lw_p12, List.forall_mem_cons.mpr ⟨lw_p13, List.forall_mem_cons.mpr ⟨lw_p14, List.forall_mem_cons.mpr ⟨lw_p15, fun _ h => absurd h List.not_mem_nil⟩⟩⟩⟩⟩⟩⟩⟩⟩⟩⟩⟩⟩⟩⟩⟩
theorem lw_p16 : lw_okq (⟨"RumourRent$Reader", "readBoth", "(I)V"⟩, 10) := ⟨⟨by decide +kernel, by decide +kernel⟩, List.mem_of_getElem? (i := 227) (by decide +kernel), List.mem_of_getElem? (i := 655) (by decide +kernel), List.mem_of_getElem? (i := 656) (by decide +kernel)⟩
theorem lw_p17 : lw_okq (⟨"RumourRent$Reader", "readAsk", "(I)V"⟩, 10) := ⟨⟨by decide +kernel, by decide +kernel⟩, List.mem_of_getElem? (i := 227) (by decide +kernel), List.mem_of_getElem? (i := 659) (by decide +kernel), List.mem_of_getElem? (i := 660) (by decide +kernel)⟩
theorem lw_p18 : lw_okq (⟨"RumourRent$Reader", "readNot", "(I)V"⟩, 10) := ⟨⟨by decide +kernel, by decide +kernel⟩, List.mem_of_getElem? (i := 227) (by decide +kernel), List.mem_of_getElem? (i := 663) (by decide +kernel), List.mem_of_getElem? (i := 664) (by decide +kernel)⟩
theorem lw_p19 : lw_okq (⟨"RumourRent$Reader", "readDeed", "(I)V"⟩, 10) := ⟨⟨by decide +kernel, by decide +kernel⟩, List.mem_of_getElem? (i := 227) (by decide +kernel), List.mem_of_getElem? (i := 671) (by decide +kernel), List.mem_of_getElem? (i := 672) (by decide +kernel)⟩
theorem lw_p20 : lw_okq (⟨"RumourRent", "ruling", "()LRumourRent$Text;"⟩, 14) := ⟨⟨by decide +kernel, by decide +kernel⟩, List.mem_of_getElem? (i := 22) (by decide +kernel), List.mem_of_getElem? (i := 704) (by decide +kernel), List.mem_of_getElem? (i := 705) (by decide +kernel)⟩
theorem lw_p21 : lw_okq (⟨"RumourRent$Judge", "valueOf", "(LRumourRent$Text;ILRumourRent$Town;II)I"⟩, 2) := ⟨⟨by decide +kernel, by decide +kernel⟩, List.mem_of_getElem? (i := 267) (by decide +kernel), List.mem_of_getElem? (i := 731) (by decide +kernel), List.mem_of_getElem? (i := 732) (by decide +kernel)⟩
theorem lw_p22 : lw_okq (⟨"RumourRent$Judge", "push", "(I)V"⟩, 2) := ⟨⟨by decide +kernel, by decide +kernel⟩, List.mem_of_getElem? (i := 267) (by decide +kernel), List.mem_of_getElem? (i := 741) (by decide +kernel), List.mem_of_getElem? (i := 742) (by decide +kernel)⟩
theorem lw_p23 : lw_okq (⟨"RumourRent$Judge", "pop", "()I"⟩, 2) := ⟨⟨by decide +kernel, by decide +kernel⟩, List.mem_of_getElem? (i := 267) (by decide +kernel), List.mem_of_getElem? (i := 750) (by decide +kernel), List.mem_of_getElem? (i := 751) (by decide +kernel)⟩
theorem lw_p24 : lw_okq (⟨"RumourRent$Custom", "payRent", "(LRumourRent$Town;LRumourRent$Text;II)V"⟩, 1) := ⟨⟨by decide +kernel, by decide +kernel⟩, List.mem_of_getElem? (i := 280) (by decide +kernel), List.mem_of_getElem? (i := 805) (by decide +kernel), List.mem_of_getElem? (i := 806) (by decide +kernel)⟩
theorem lw_p25 : lw_okq (⟨"RumourRent", "passDays", "(I)Z"⟩, 14) := ⟨⟨by decide +kernel, by decide +kernel⟩, List.mem_of_getElem? (i := 22) (by decide +kernel), List.mem_of_getElem? (i := 828) (by decide +kernel), List.mem_of_getElem? (i := 829) (by decide +kernel)⟩
theorem lw_p26 : lw_okq (⟨"RumourRent", "perform", "(I)Z"⟩, 14) := ⟨⟨by decide +kernel, by decide +kernel⟩, List.mem_of_getElem? (i := 22) (by decide +kernel), List.mem_of_getElem? (i := 832) (by decide +kernel), List.mem_of_getElem? (i := 833) (by decide +kernel)⟩
theorem lw_p27 : lw_okq (⟨"RumourRent$Streets", "besideAny", "(I)I"⟩, 9) := ⟨⟨by decide +kernel, by decide +kernel⟩, List.mem_of_getElem? (i := 290) (by decide +kernel), List.mem_of_getElem? (i := 917) (by decide +kernel), List.mem_of_getElem? (i := 918) (by decide +kernel)⟩
theorem lw_p28 : lw_okq (⟨"RumourRent$Streets", "lowestNearer", "(II)I"⟩, 9) := ⟨⟨by decide +kernel, by decide +kernel⟩, List.mem_of_getElem? (i := 290) (by decide +kernel), List.mem_of_getElem? (i := 933) (by decide +kernel), List.mem_of_getElem? (i := 934) (by decide +kernel)⟩
theorem lw_p29 : lw_okq (⟨"RumourRent$Streets", "joins", "(II)Z"⟩, 9) := ⟨⟨by decide +kernel, by decide +kernel⟩, List.mem_of_getElem? (i := 290) (by decide +kernel), List.mem_of_getElem? (i := 937) (by decide +kernel), List.mem_of_getElem? (i := 938) (by decide +kernel)⟩
theorem lw_p30 : lw_okq (⟨"RumourRent$Streets", "fillMatrix", "()V"⟩, 9) := ⟨⟨by decide +kernel, by decide +kernel⟩, List.mem_of_getElem? (i := 290) (by decide +kernel), List.mem_of_getElem? (i := 990) (by decide +kernel), List.mem_of_getElem? (i := 991) (by decide +kernel)⟩
theorem lw_p31 : lw_okq (⟨"RumourRent$Streets", "countInside", "()V"⟩, 9) := ⟨⟨by decide +kernel, by decide +kernel⟩, List.mem_of_getElem? (i := 290) (by decide +kernel), List.mem_of_getElem? (i := 1002) (by decide +kernel), List.mem_of_getElem? (i := 1003) (by decide +kernel)⟩
def lw_privs_2 : List (MethodName × Nat) := [(⟨"RumourRent$Reader", "readBoth", "(I)V"⟩, 10), (⟨"RumourRent$Reader", "readAsk", "(I)V"⟩, 10), (⟨"RumourRent$Reader", "readNot", "(I)V"⟩, 10), (⟨"RumourRent$Reader", "readDeed", "(I)V"⟩, 10), (⟨"RumourRent", "ruling", "()LRumourRent$Text;"⟩, 14), (⟨"RumourRent$Judge", "valueOf", "(LRumourRent$Text;ILRumourRent$Town;II)I"⟩, 2), (⟨"RumourRent$Judge", "push", "(I)V"⟩, 2), (⟨"RumourRent$Judge", "pop", "()I"⟩, 2), (⟨"RumourRent$Custom", "payRent", "(LRumourRent$Town;LRumourRent$Text;II)V"⟩, 1), (⟨"RumourRent", "passDays", "(I)Z"⟩, 14), (⟨"RumourRent", "perform", "(I)Z"⟩, 14), (⟨"RumourRent$Streets", "besideAny", "(I)I"⟩, 9), (⟨"RumourRent$Streets", "lowestNearer", "(II)I"⟩, 9), (⟨"RumourRent$Streets", "joins", "(II)Z"⟩, 9), (⟨"RumourRent$Streets", "fillMatrix", "()V"⟩, 9), (⟨"RumourRent$Streets", "countInside", "()V"⟩, 9)]
theorem lw_r2 : ∀ q ∈ lw_privs_2, lw_okq q := List.forall_mem_cons.mpr ⟨lw_p16, List.forall_mem_cons.mpr ⟨lw_p17, List.forall_mem_cons.mpr ⟨lw_p18, List.forall_mem_cons.mpr ⟨lw_p19, List.forall_mem_cons.mpr ⟨lw_p20, List.forall_mem_cons.mpr ⟨lw_p21, List.forall_mem_cons.mpr ⟨lw_p22, List.forall_mem_cons.mpr ⟨lw_p23, List.forall_mem_cons.mpr ⟨lw_p24, List.forall_mem_cons.mpr ⟨lw_p25, List.forall_mem_cons.mpr ⟨lw_p26, List.forall_mem_cons.mpr ⟨lw_p27, List.forall_mem_cons.mpr ⟨lw_p28, List.forall_mem_cons.mpr ⟨lw_p29, List.forall_mem_cons.mpr ⟨lw_p30, List.forall_mem_cons.mpr ⟨lw_p31, fun _ h => absurd h List.not_mem_nil⟩⟩⟩⟩⟩⟩⟩⟩⟩⟩⟩⟩⟩⟩⟩⟩
theorem lw_p32 : lw_okq (⟨"RumourRent$Streets", "countTwoColours", "(I)I"⟩, 9) := ⟨⟨by decide +kernel, by decide +kernel⟩, List.mem_of_getElem? (i := 290) (by decide +kernel), List.mem_of_getElem? (i := 1010) (by decide +kernel), List.mem_of_getElem? (i := 1011) (by decide +kernel)⟩
theorem lw_p33 : lw_okq (⟨"RumourRent$Streets", "oneColour", "(I)I"⟩, 9) := ⟨⟨by decide +kernel, by decide +kernel⟩, List.mem_of_getElem? (i := 290) (by decide +kernel), List.mem_of_getElem? (i := 1014) (by decide +kernel), List.mem_of_getElem? (i := 1015) (by decide +kernel)⟩
theorem lw_p34 : lw_okq (⟨"RumourRent$Streets", "tintFrom", "(II)Z"⟩, 9) := ⟨⟨by decide +kernel, by decide +kernel⟩, List.mem_of_getElem? (i := 290) (by decide +kernel), List.mem_of_getElem? (i := 1027) (by decide +kernel), List.mem_of_getElem? (i := 1028) (by decide +kernel)⟩
theorem lw_p35 : lw_okq (⟨"RumourRent$Streets", "differsFromLower", "(I)Z"⟩, 9) := ⟨⟨by decide +kernel, by decide +kernel⟩, List.mem_of_getElem? (i := 290) (by decide +kernel), List.mem_of_getElem? (i := 1031) (by decide +kernel), List.mem_of_getElem? (i := 1032) (by decide +kernel)⟩
theorem lw_p36 : lw_okq (⟨"RumourRent$Streets", "walkOn", "(III)V"⟩, 9) := ⟨⟨by decide +kernel, by decide +kernel⟩, List.mem_of_getElem? (i := 290) (by decide +kernel), List.mem_of_getElem? (i := 1043) (by decide +kernel), List.mem_of_getElem? (i := 1044) (by decide +kernel)⟩
theorem lw_p37 : lw_okq (⟨"RumourRent$Streets", "isNearAll", "(II)Z"⟩, 9) := ⟨⟨by decide +kernel, by decide +kernel⟩, List.mem_of_getElem? (i := 290) (by decide +kernel), List.mem_of_getElem? (i := 1068) (by decide +kernel), List.mem_of_getElem? (i := 1069) (by decide +kernel)⟩
theorem lw_p38 : lw_okq (⟨"RumourRent$Streets", "countJoined", "(II)I"⟩, 9) := ⟨⟨by decide +kernel, by decide +kernel⟩, List.mem_of_getElem? (i := 290) (by decide +kernel), List.mem_of_getElem? (i := 1080) (by decide +kernel), List.mem_of_getElem? (i := 1081) (by decide +kernel)⟩
theorem lw_p39 : lw_okq (⟨"RumourRent$Inquiry", "weighOne", "(I)V"⟩, 5) := ⟨⟨by decide +kernel, by decide +kernel⟩, List.mem_of_getElem? (i := 326) (by decide +kernel), List.mem_of_getElem? (i := 1097) (by decide +kernel), List.mem_of_getElem? (i := 1098) (by decide +kernel)⟩
theorem lw_p40 : lw_okq (⟨"RumourRent$Inquiry", "mostAlike", "(II)I"⟩, 5) := ⟨⟨by decide +kernel, by decide +kernel⟩, List.mem_of_getElem? (i := 326) (by decide +kernel), List.mem_of_getElem? (i := 1121) (by decide +kernel), List.mem_of_getElem? (i := 1122) (by decide +kernel)⟩
theorem lw_p41 : lw_okq (⟨"RumourRent$Inquiry", "countHearing", "(II)I"⟩, 5) := ⟨⟨by decide +kernel, by decide +kernel⟩, List.mem_of_getElem? (i := 326) (by decide +kernel), List.mem_of_getElem? (i := 1125) (by decide +kernel), List.mem_of_getElem? (i := 1126) (by decide +kernel)⟩
theorem lw_p42 : lw_okq (⟨"RumourRent$Lodging", "fewestFor", "(I)I"⟩, 7) := ⟨⟨by decide +kernel, by decide +kernel⟩, List.mem_of_getElem? (i := 349) (by decide +kernel), List.mem_of_getElem? (i := 1143) (by decide +kernel), List.mem_of_getElem? (i := 1144) (by decide +kernel)⟩
theorem lw_p43 : lw_okq (⟨"RumourRent$Lodging", "fewestWith", "(II)I"⟩, 7) := ⟨⟨by decide +kernel, by decide +kernel⟩, List.mem_of_getElem? (i := 349) (by decide +kernel), List.mem_of_getElem? (i := 1147) (by decide +kernel), List.mem_of_getElem? (i := 1148) (by decide +kernel)⟩
theorem lw_p44 : lw_okq (⟨"RumourRent$Lodging", "lowestFor", "(III)I"⟩, 7) := ⟨⟨by decide +kernel, by decide +kernel⟩, List.mem_of_getElem? (i := 349) (by decide +kernel), List.mem_of_getElem? (i := 1157) (by decide +kernel), List.mem_of_getElem? (i := 1158) (by decide +kernel)⟩
theorem lw_p45 : lw_okq (⟨"RumourRent", "agreesWithSaid", "(LRumourRent$Text;)Z"⟩, 14) := ⟨⟨by decide +kernel, by decide +kernel⟩, List.mem_of_getElem? (i := 22) (by decide +kernel), List.mem_of_getElem? (i := 1169) (by decide +kernel), List.mem_of_getElem? (i := 1170) (by decide +kernel)⟩
theorem lw_p46 : lw_okq (⟨"RumourRent", "chargeOfAll", "(I)I"⟩, 14) := ⟨⟨by decide +kernel, by decide +kernel⟩, List.mem_of_getElem? (i := 22) (by decide +kernel), List.mem_of_getElem? (i := 1177) (by decide +kernel), List.mem_of_getElem? (i := 1178) (by decide +kernel)⟩
theorem lw_p47 : lw_okq (⟨"RumourRentModel", "besideOf", "(I)I"⟩, 34) := ⟨⟨by decide +kernel, by decide +kernel⟩, List.mem_of_getElem? (i := 1210) (by decide +kernel), List.mem_of_getElem? (i := 1334) (by decide +kernel), List.mem_of_getElem? (i := 1335) (by decide +kernel)⟩
def lw_privs_3 : List (MethodName × Nat) := [(⟨"RumourRent$Streets", "countTwoColours", "(I)I"⟩, 9), (⟨"RumourRent$Streets", "oneColour", "(I)I"⟩, 9), (⟨"RumourRent$Streets", "tintFrom", "(II)Z"⟩, 9), (⟨"RumourRent$Streets", "differsFromLower", "(I)Z"⟩, 9), (⟨"RumourRent$Streets", "walkOn", "(III)V"⟩, 9), (⟨"RumourRent$Streets", "isNearAll", "(II)Z"⟩, 9), (⟨"RumourRent$Streets", "countJoined", "(II)I"⟩, 9), (⟨"RumourRent$Inquiry", "weighOne", "(I)V"⟩, 5), (⟨"RumourRent$Inquiry", "mostAlike", "(II)I"⟩, 5), (⟨"RumourRent$Inquiry", "countHearing", "(II)I"⟩, 5), (⟨"RumourRent$Lodging", "fewestFor", "(I)I"⟩, 7), (⟨"RumourRent$Lodging", "fewestWith", "(II)I"⟩, 7), (⟨"RumourRent$Lodging", "lowestFor", "(III)I"⟩, 7), (⟨"RumourRent", "agreesWithSaid", "(LRumourRent$Text;)Z"⟩, 14), (⟨"RumourRent", "chargeOfAll", "(I)I"⟩, 14), (⟨"RumourRentModel", "besideOf", "(I)I"⟩, 34)]
theorem lw_r3 : ∀ q ∈ lw_privs_3, lw_okq q := List.forall_mem_cons.mpr ⟨lw_p32, List.forall_mem_cons.mpr ⟨lw_p33, List.forall_mem_cons.mpr ⟨lw_p34, List.forall_mem_cons.mpr ⟨lw_p35, List.forall_mem_cons.mpr ⟨lw_p36, List.forall_mem_cons.mpr ⟨lw_p37, List.forall_mem_cons.mpr ⟨lw_p38, List.forall_mem_cons.mpr ⟨lw_p39, List.forall_mem_cons.mpr ⟨lw_p40, List.forall_mem_cons.mpr ⟨lw_p41, List.forall_mem_cons.mpr ⟨lw_p42, List.forall_mem_cons.mpr ⟨lw_p43, List.forall_mem_cons.mpr ⟨lw_p44, List.forall_mem_cons.mpr ⟨lw_p45, List.forall_mem_cons.mpr ⟨lw_p46, List.forall_mem_cons.mpr ⟨lw_p47, fun _ h => absurd h List.not_mem_nil⟩⟩⟩⟩⟩⟩⟩⟩⟩⟩⟩⟩⟩⟩⟩⟩
theorem lw_p48 : lw_okq (⟨"RumourRentModel", "four", "(I)V"⟩, 34) := ⟨⟨by decide +kernel, by decide +kernel⟩, List.mem_of_getElem? (i := 1210) (by decide +kernel), List.mem_of_getElem? (i := 1353) (by decide +kernel), List.mem_of_getElem? (i := 1354) (by decide +kernel)⟩
theorem lw_p49 : lw_okq (⟨"RumourRentModel", "readText", "()I"⟩, 34) := ⟨⟨by decide +kernel, by decide +kernel⟩, List.mem_of_getElem? (i := 1210) (by decide +kernel), List.mem_of_getElem? (i := 1365) (by decide +kernel), List.mem_of_getElem? (i := 1366) (by decide +kernel)⟩
theorem lw_p50 : lw_okq (⟨"RumourRentModel", "nextToken", "()V"⟩, 34) := ⟨⟨by decide +kernel, by decide +kernel⟩, List.mem_of_getElem? (i := 1210) (by decide +kernel), List.mem_of_getElem? (i := 1369) (by decide +kernel), List.mem_of_getElem? (i := 1370) (by decide +kernel)⟩
theorem lw_p51 : lw_okq (⟨"RumourRentModel", "byteAt", "(I)I"⟩, 34) := ⟨⟨by decide +kernel, by decide +kernel⟩, List.mem_of_getElem? (i := 1210) (by decide +kernel), List.mem_of_getElem? (i := 1373) (by decide +kernel), List.mem_of_getElem? (i := 1374) (by decide +kernel)⟩
theorem lw_p52 : lw_okq (⟨"RumourRentModel", "clause", "()I"⟩, 34) := ⟨⟨by decide +kernel, by decide +kernel⟩, List.mem_of_getElem? (i := 1210) (by decide +kernel), List.mem_of_getElem? (i := 1388) (by decide +kernel), List.mem_of_getElem? (i := 1389) (by decide +kernel)⟩
theorem lw_p53 : lw_okq (⟨"RumourRentModel", "sortOf", "()I"⟩, 34) := ⟨⟨by decide +kernel, by decide +kernel⟩, List.mem_of_getElem? (i := 1210) (by decide +kernel), List.mem_of_getElem? (i := 1392) (by decide +kernel), List.mem_of_getElem? (i := 1393) (by decide +kernel)⟩
theorem lw_p54 : lw_okq (⟨"RumourRentModel", "isBelieves", "()Z"⟩, 34) := ⟨⟨by decide +kernel, by decide +kernel⟩, List.mem_of_getElem? (i := 1210) (by decide +kernel), List.mem_of_getElem? (i := 1396) (by decide +kernel), List.mem_of_getElem? (i := 1397) (by decide +kernel)⟩
theorem lw_p55 : lw_okq (⟨"RumourRentModel", "isWord", "(J)Z"⟩, 34) := ⟨⟨by decide +kernel, by decide +kernel⟩, List.mem_of_getElem? (i := 1210) (by decide +kernel), List.mem_of_getElem? (i := 1409) (by decide +kernel), List.mem_of_getElem? (i := 1410) (by decide +kernel)⟩
theorem lw_p56 : lw_okq (⟨"RumourRentModel", "body", "(II)I"⟩, 34) := ⟨⟨by decide +kernel, by decide +kernel⟩, List.mem_of_getElem? (i := 1210) (by decide +kernel), List.mem_of_getElem? (i := 1419) (by decide +kernel), List.mem_of_getElem? (i := 1420) (by decide +kernel)⟩
theorem lw_p57 : lw_okq (⟨"RumourRentModel", "pair", "(IIJI)I"⟩, 34) := ⟨⟨by decide +kernel, by decide +kernel⟩, List.mem_of_getElem? (i := 1210) (by decide +kernel), List.mem_of_getElem? (i := 1423) (by decide +kernel), List.mem_of_getElem? (i := 1424) (by decide +kernel)⟩
theorem lw_p58 : lw_okq (⟨"RumourRentModel", "figure", "(III)I"⟩, 34) := ⟨⟨by decide +kernel, by decide +kernel⟩, List.mem_of_getElem? (i := 1210) (by decide +kernel), List.mem_of_getElem? (i := 1427) (by decide +kernel), List.mem_of_getElem? (i := 1428) (by decide +kernel)⟩
theorem lw_p59 : lw_okq (⟨"RumourRentModel", "lawClause", "(I)I"⟩, 34) := ⟨⟨by decide +kernel, by decide +kernel⟩, List.mem_of_getElem? (i := 1210) (by decide +kernel), List.mem_of_getElem? (i := 1431) (by decide +kernel), List.mem_of_getElem? (i := 1432) (by decide +kernel)⟩
theorem lw_p60 : lw_okq (⟨"RumourRentModel", "summed", "()I"⟩, 34) := ⟨⟨by decide +kernel, by decide +kernel⟩, List.mem_of_getElem? (i := 1210) (by decide +kernel), List.mem_of_getElem? (i := 1435) (by decide +kernel), List.mem_of_getElem? (i := 1436) (by decide +kernel)⟩
theorem lw_p61 : lw_okq (⟨"RumourRentModel", "behindOne", "()I"⟩, 34) := ⟨⟨by decide +kernel, by decide +kernel⟩, List.mem_of_getElem? (i := 1210) (by decide +kernel), List.mem_of_getElem? (i := 1439) (by decide +kernel), List.mem_of_getElem? (i := 1440) (by decide +kernel)⟩
theorem lw_p62 : lw_okq (⟨"RumourRentModel", "betweenOf", "()I"⟩, 34) := ⟨⟨by decide +kernel, by decide +kernel⟩, List.mem_of_getElem? (i := 1210) (by decide +kernel), List.mem_of_getElem? (i := 1443) (by decide +kernel), List.mem_of_getElem? (i := 1444) (by decide +kernel)⟩
theorem lw_p63 : lw_okq (⟨"RumourRentModel", "openNow", "()I"⟩, 34) := ⟨⟨by decide +kernel, by decide +kernel⟩, List.mem_of_getElem? (i := 1210) (by decide +kernel), List.mem_of_getElem? (i := 1447) (by decide +kernel), List.mem_of_getElem? (i := 1448) (by decide +kernel)⟩
def lw_privs_4 : List (MethodName × Nat) := [(⟨"RumourRentModel", "four", "(I)V"⟩, 34), (⟨"RumourRentModel", "readText", "()I"⟩, 34), (⟨"RumourRentModel", "nextToken", "()V"⟩, 34), (⟨"RumourRentModel", "byteAt", "(I)I"⟩, 34), (⟨"RumourRentModel", "clause", "()I"⟩, 34), (⟨"RumourRentModel", "sortOf", "()I"⟩, 34), (⟨"RumourRentModel", "isBelieves", "()Z"⟩, 34), (⟨"RumourRentModel", "isWord", "(J)Z"⟩, 34), (⟨"RumourRentModel", "body", "(II)I"⟩, 34), (⟨"RumourRentModel", "pair", "(IIJI)I"⟩, 34), (⟨"RumourRentModel", "figure", "(III)I"⟩, 34), (⟨"RumourRentModel", "lawClause", "(I)I"⟩, 34), (⟨"RumourRentModel", "summed", "()I"⟩, 34), (⟨"RumourRentModel", "behindOne", "()I"⟩, 34), (⟨"RumourRentModel", "betweenOf", "()I"⟩, 34), (⟨"RumourRentModel", "openNow", "()I"⟩, 34)]
theorem lw_r4 : ∀ q ∈ lw_privs_4, lw_okq q := List.forall_mem_cons.mpr ⟨lw_p48, List.forall_mem_cons.mpr ⟨lw_p49, List.forall_mem_cons.mpr ⟨lw_p50, List.forall_mem_cons.mpr ⟨lw_p51, List.forall_mem_cons.mpr ⟨lw_p52, List.forall_mem_cons.mpr ⟨lw_p53, List.forall_mem_cons.mpr ⟨lw_p54, List.forall_mem_cons.mpr ⟨lw_p55, List.forall_mem_cons.mpr ⟨lw_p56, List.forall_mem_cons.mpr ⟨lw_p57, List.forall_mem_cons.mpr ⟨lw_p58, List.forall_mem_cons.mpr ⟨lw_p59, List.forall_mem_cons.mpr ⟨lw_p60, List.forall_mem_cons.mpr ⟨lw_p61, List.forall_mem_cons.mpr ⟨lw_p62, List.forall_mem_cons.mpr ⟨lw_p63, fun _ h => absurd h List.not_mem_nil⟩⟩⟩⟩⟩⟩⟩⟩⟩⟩⟩⟩⟩⟩⟩⟩
theorem lw_p64 : lw_okq (⟨"RumourRentModel", "openAt", "()I"⟩, 34) := ⟨⟨by decide +kernel, by decide +kernel⟩, List.mem_of_getElem? (i := 1210) (by decide +kernel), List.mem_of_getElem? (i := 1451) (by decide +kernel), List.mem_of_getElem? (i := 1452) (by decide +kernel)⟩
theorem lw_p65 : lw_okq (⟨"RumourRentModel", "isCompared", "()Z"⟩, 34) := ⟨⟨by decide +kernel, by decide +kernel⟩, List.mem_of_getElem? (i := 1210) (by decide +kernel), List.mem_of_getElem? (i := 1455) (by decide +kernel), List.mem_of_getElem? (i := 1456) (by decide +kernel)⟩
theorem lw_p66 : lw_okq (⟨"RumourRentModel", "compareOf", "()I"⟩, 34) := ⟨⟨by decide +kernel, by decide +kernel⟩, List.mem_of_getElem? (i := 1210) (by decide +kernel), List.mem_of_getElem? (i := 1462) (by decide +kernel), List.mem_of_getElem? (i := 1463) (by decide +kernel)⟩
theorem lw_p67 : lw_okq (⟨"RumourRentModel", "settle", "(I)V"⟩, 34) := ⟨⟨by decide +kernel, by decide +kernel⟩, List.mem_of_getElem? (i := 1210) (by decide +kernel), List.mem_of_getElem? (i := 1466) (by decide +kernel), List.mem_of_getElem? (i := 1467) (by decide +kernel)⟩
theorem lw_p68 : lw_okq (⟨"RumourRentModel", "emit", "(II)V"⟩, 34) := ⟨⟨by decide +kernel, by decide +kernel⟩, List.mem_of_getElem? (i := 1210) (by decide +kernel), List.mem_of_getElem? (i := 1470) (by decide +kernel), List.mem_of_getElem? (i := 1471) (by decide +kernel)⟩
theorem lw_p69 : lw_okq (⟨"RumourRentModel", "partOf", "(I)I"⟩, 34) := ⟨⟨by decide +kernel, by decide +kernel⟩, List.mem_of_getElem? (i := 1210) (by decide +kernel), List.mem_of_getElem? (i := 1474) (by decide +kernel), List.mem_of_getElem? (i := 1475) (by decide +kernel)⟩
theorem lw_p70 : lw_okq (⟨"RumourRentModel", "endOne", "()I"⟩, 34) := ⟨⟨by decide +kernel, by decide +kernel⟩, List.mem_of_getElem? (i := 1210) (by decide +kernel), List.mem_of_getElem? (i := 1478) (by decide +kernel), List.mem_of_getElem? (i := 1479) (by decide +kernel)⟩
theorem lw_p71 : lw_okq (⟨"RumourRentModel", "beginOne", "()I"⟩, 34) := ⟨⟨by decide +kernel, by decide +kernel⟩, List.mem_of_getElem? (i := 1210) (by decide +kernel), List.mem_of_getElem? (i := 1482) (by decide +kernel), List.mem_of_getElem? (i := 1483) (by decide +kernel)⟩
theorem lw_p72 : lw_okq (⟨"RumourRentModel", "nameOf", "()I"⟩, 34) := ⟨⟨by decide +kernel, by decide +kernel⟩, List.mem_of_getElem? (i := 1210) (by decide +kernel), List.mem_of_getElem? (i := 1486) (by decide +kernel), List.mem_of_getElem? (i := 1487) (by decide +kernel)⟩
theorem lw_p73 : lw_okq (⟨"RumourRentModel", "isOf", "(I)Z"⟩, 34) := ⟨⟨by decide +kernel, by decide +kernel⟩, List.mem_of_getElem? (i := 1210) (by decide +kernel), List.mem_of_getElem? (i := 1490) (by decide +kernel), List.mem_of_getElem? (i := 1491) (by decide +kernel)⟩
theorem lw_p74 : lw_okq (⟨"RumourRentModel", "opened", "(I)I"⟩, 34) := ⟨⟨by decide +kernel, by decide +kernel⟩, List.mem_of_getElem? (i := 1210) (by decide +kernel), List.mem_of_getElem? (i := 1494) (by decide +kernel), List.mem_of_getElem? (i := 1495) (by decide +kernel)⟩
theorem lw_p75 : lw_okq (⟨"RumourRentModel", "isAskAhead", "()Z"⟩, 34) := ⟨⟨by decide +kernel, by decide +kernel⟩, List.mem_of_getElem? (i := 1210) (by decide +kernel), List.mem_of_getElem? (i := 1498) (by decide +kernel), List.mem_of_getElem? (i := 1499) (by decide +kernel)⟩
theorem lw_p76 : lw_okq (⟨"RumourRentModel", "canTell", "(II)Z"⟩, 34) := ⟨⟨by decide +kernel, by decide +kernel⟩, List.mem_of_getElem? (i := 1210) (by decide +kernel), List.mem_of_getElem? (i := 1518) (by decide +kernel), List.mem_of_getElem? (i := 1519) (by decide +kernel)⟩
theorem lw_p77 : lw_okq (⟨"RumourRentModel", "isRumour", "(I)Z"⟩, 34) := ⟨⟨by decide +kernel, by decide +kernel⟩, List.mem_of_getElem? (i := 1210) (by decide +kernel), List.mem_of_getElem? (i := 1522) (by decide +kernel), List.mem_of_getElem? (i := 1523) (by decide +kernel)⟩
theorem lw_p78 : lw_okq (⟨"RumourRentModel", "believesOf", "(II)I"⟩, 34) := ⟨⟨by decide +kernel, by decide +kernel⟩, List.mem_of_getElem? (i := 1210) (by decide +kernel), List.mem_of_getElem? (i := 1529) (by decide +kernel), List.mem_of_getElem? (i := 1530) (by decide +kernel)⟩
theorem lw_p79 : lw_okq (⟨"RumourRentModel", "name", "(II)V"⟩, 34) := ⟨⟨by decide +kernel, by decide +kernel⟩, List.mem_of_getElem? (i := 1210) (by decide +kernel), List.mem_of_getElem? (i := 1533) (by decide +kernel), List.mem_of_getElem? (i := 1534) (by decide +kernel)⟩
def lw_privs_5 : List (MethodName × Nat) := [(⟨"RumourRentModel", "openAt", "()I"⟩, 34), (⟨"RumourRentModel", "isCompared", "()Z"⟩, 34), (⟨"RumourRentModel", "compareOf", "()I"⟩, 34), (⟨"RumourRentModel", "settle", "(I)V"⟩, 34), (⟨"RumourRentModel", "emit", "(II)V"⟩, 34), (⟨"RumourRentModel", "partOf", "(I)I"⟩, 34), (⟨"RumourRentModel", "endOne", "()I"⟩, 34), (⟨"RumourRentModel", "beginOne", "()I"⟩, 34), (⟨"RumourRentModel", "nameOf", "()I"⟩, 34), (⟨"RumourRentModel", "isOf", "(I)Z"⟩, 34), (⟨"RumourRentModel", "opened", "(I)I"⟩, 34), (⟨"RumourRentModel", "isAskAhead", "()Z"⟩, 34), (⟨"RumourRentModel", "canTell", "(II)Z"⟩, 34), (⟨"RumourRentModel", "isRumour", "(I)Z"⟩, 34), (⟨"RumourRentModel", "believesOf", "(II)I"⟩, 34), (⟨"RumourRentModel", "name", "(II)V"⟩, 34)]
theorem lw_r5 : ∀ q ∈ lw_privs_5, lw_okq q := List.forall_mem_cons.mpr ⟨lw_p64, List.forall_mem_cons.mpr ⟨lw_p65, List.forall_mem_cons.mpr ⟨lw_p66, List.forall_mem_cons.mpr ⟨lw_p67, List.forall_mem_cons.mpr ⟨lw_p68, List.forall_mem_cons.mpr ⟨lw_p69, List.forall_mem_cons.mpr ⟨lw_p70, List.forall_mem_cons.mpr ⟨lw_p71, List.forall_mem_cons.mpr ⟨lw_p72, List.forall_mem_cons.mpr ⟨lw_p73, List.forall_mem_cons.mpr ⟨lw_p74, List.forall_mem_cons.mpr ⟨lw_p75, List.forall_mem_cons.mpr ⟨lw_p76, List.forall_mem_cons.mpr ⟨lw_p77, List.forall_mem_cons.mpr ⟨lw_p78, List.forall_mem_cons.mpr ⟨lw_p79, fun _ h => absurd h List.not_mem_nil⟩⟩⟩⟩⟩⟩⟩⟩⟩⟩⟩⟩⟩⟩⟩⟩
theorem lw_p80 : lw_okq (⟨"RumourRentModel", "keepersOf", "(I)I"⟩, 34) := ⟨⟨by decide +kernel, by decide +kernel⟩, List.mem_of_getElem? (i := 1210) (by decide +kernel), List.mem_of_getElem? (i := 1537) (by decide +kernel), List.mem_of_getElem? (i := 1538) (by decide +kernel)⟩
theorem lw_p81 : lw_okq (⟨"RumourRentModel", "says", "(IIII)I"⟩, 34) := ⟨⟨by decide +kernel, by decide +kernel⟩, List.mem_of_getElem? (i := 1210) (by decide +kernel), List.mem_of_getElem? (i := 1541) (by decide +kernel), List.mem_of_getElem? (i := 1542) (by decide +kernel)⟩
theorem lw_p82 : lw_okq (⟨"RumourRentModel", "summedUp", "(II)J"⟩, 34) := ⟨⟨by decide +kernel, by decide +kernel⟩, List.mem_of_getElem? (i := 1210) (by decide +kernel), List.mem_of_getElem? (i := 1545) (by decide +kernel), List.mem_of_getElem? (i := 1546) (by decide +kernel)⟩
theorem lw_p83 : lw_okq (⟨"RumourRentModel", "keptBy", "(J)J"⟩, 34) := ⟨⟨by decide +kernel, by decide +kernel⟩, List.mem_of_getElem? (i := 1210) (by decide +kernel), List.mem_of_getElem? (i := 1549) (by decide +kernel), List.mem_of_getElem? (i := 1550) (by decide +kernel)⟩
theorem lw_p84 : lw_okq (⟨"RumourRentModel", "keep", "()V"⟩, 34) := ⟨⟨by decide +kernel, by decide +kernel⟩, List.mem_of_getElem? (i := 1210) (by decide +kernel), List.mem_of_getElem? (i := 1572) (by decide +kernel), List.mem_of_getElem? (i := 1573) (by decide +kernel)⟩
theorem lw_p85 : lw_okq (⟨"RumourRentModel", "tellNow", "(II)V"⟩, 34) := ⟨⟨by decide +kernel, by decide +kernel⟩, List.mem_of_getElem? (i := 1210) (by decide +kernel), List.mem_of_getElem? (i := 1576) (by decide +kernel), List.mem_of_getElem? (i := 1577) (by decide +kernel)⟩
theorem lw_p86 : lw_okq (⟨"RumourRentModel", "write", "(II)V"⟩, 34) := ⟨⟨by decide +kernel, by decide +kernel⟩, List.mem_of_getElem? (i := 1210) (by decide +kernel), List.mem_of_getElem? (i := 1580) (by decide +kernel), List.mem_of_getElem? (i := 1581) (by decide +kernel)⟩
theorem lw_p87 : lw_okq (⟨"RumourRentModel", "canHush", "(II)Z"⟩, 34) := ⟨⟨by decide +kernel, by decide +kernel⟩, List.mem_of_getElem? (i := 1210) (by decide +kernel), List.mem_of_getElem? (i := 1588) (by decide +kernel), List.mem_of_getElem? (i := 1589) (by decide +kernel)⟩
theorem lw_p88 : lw_okq (⟨"RumourRentModel", "canGive", "(II)Z"⟩, 34) := ⟨⟨by decide +kernel, by decide +kernel⟩, List.mem_of_getElem? (i := 1210) (by decide +kernel), List.mem_of_getElem? (i := 1596) (by decide +kernel), List.mem_of_getElem? (i := 1597) (by decide +kernel)⟩
theorem lw_p89 : lw_okq (⟨"RumourRentModel", "arePassed", "(I)Z"⟩, 34) := ⟨⟨by decide +kernel, by decide +kernel⟩, List.mem_of_getElem? (i := 1210) (by decide +kernel), List.mem_of_getElem? (i := 1604) (by decide +kernel), List.mem_of_getElem? (i := 1605) (by decide +kernel)⟩
theorem lw_p90 : lw_okq (⟨"RumourRentModel", "pass", "()V"⟩, 34) := ⟨⟨by decide +kernel, by decide +kernel⟩, List.mem_of_getElem? (i := 1210) (by decide +kernel), List.mem_of_getElem? (i := 1608) (by decide +kernel), List.mem_of_getElem? (i := 1609) (by decide +kernel)⟩
theorem lw_p91 : lw_okq (⟨"RumourRentModel", "payNow", "(II)V"⟩, 34) := ⟨⟨by decide +kernel, by decide +kernel⟩, List.mem_of_getElem? (i := 1210) (by decide +kernel), List.mem_of_getElem? (i := 1612) (by decide +kernel), List.mem_of_getElem? (i := 1613) (by decide +kernel)⟩
theorem lw_p92 : lw_okq (⟨"RumourRentModel", "rentOf", "(III)I"⟩, 34) := ⟨⟨by decide +kernel, by decide +kernel⟩, List.mem_of_getElem? (i := 1210) (by decide +kernel), List.mem_of_getElem? (i := 1616) (by decide +kernel), List.mem_of_getElem? (i := 1617) (by decide +kernel)⟩
theorem lw_p93 : lw_okq (⟨"RumourRentModel", "drawnBy", "(I)I"⟩, 34) := ⟨⟨by decide +kernel, by decide +kernel⟩, List.mem_of_getElem? (i := 1210) (by decide +kernel), List.mem_of_getElem? (i := 1620) (by decide +kernel), List.mem_of_getElem? (i := 1621) (by decide +kernel)⟩
theorem lw_p94 : lw_okq (⟨"RumourRentModel", "anew", "()V"⟩, 34) := ⟨⟨by decide +kernel, by decide +kernel⟩, List.mem_of_getElem? (i := 1210) (by decide +kernel), List.mem_of_getElem? (i := 1624) (by decide +kernel), List.mem_of_getElem? (i := 1625) (by decide +kernel)⟩
theorem lw_p95 : lw_okq (⟨"RumourRentModel", "isPlayed", "(I)Z"⟩, 34) := ⟨⟨by decide +kernel, by decide +kernel⟩, List.mem_of_getElem? (i := 1210) (by decide +kernel), List.mem_of_getElem? (i := 1635) (by decide +kernel), List.mem_of_getElem? (i := 1636) (by decide +kernel)⟩
def lw_privs_6 : List (MethodName × Nat) := [(⟨"RumourRentModel", "keepersOf", "(I)I"⟩, 34), (⟨"RumourRentModel", "says", "(IIII)I"⟩, 34), (⟨"RumourRentModel", "summedUp", "(II)J"⟩, 34), (⟨"RumourRentModel", "keptBy", "(J)J"⟩, 34), (⟨"RumourRentModel", "keep", "()V"⟩, 34), (⟨"RumourRentModel", "tellNow", "(II)V"⟩, 34), (⟨"RumourRentModel", "write", "(II)V"⟩, 34), (⟨"RumourRentModel", "canHush", "(II)Z"⟩, 34), (⟨"RumourRentModel", "canGive", "(II)Z"⟩, 34), (⟨"RumourRentModel", "arePassed", "(I)Z"⟩, 34), (⟨"RumourRentModel", "pass", "()V"⟩, 34), (⟨"RumourRentModel", "payNow", "(II)V"⟩, 34), (⟨"RumourRentModel", "rentOf", "(III)I"⟩, 34), (⟨"RumourRentModel", "drawnBy", "(I)I"⟩, 34), (⟨"RumourRentModel", "anew", "()V"⟩, 34), (⟨"RumourRentModel", "isPlayed", "(I)Z"⟩, 34)]
theorem lw_r6 : ∀ q ∈ lw_privs_6, lw_okq q := List.forall_mem_cons.mpr ⟨lw_p80, List.forall_mem_cons.mpr ⟨lw_p81, List.forall_mem_cons.mpr ⟨lw_p82, List.forall_mem_cons.mpr ⟨lw_p83, List.forall_mem_cons.mpr ⟨lw_p84, List.forall_mem_cons.mpr ⟨lw_p85, List.forall_mem_cons.mpr ⟨lw_p86, List.forall_mem_cons.mpr ⟨lw_p87, List.forall_mem_cons.mpr ⟨lw_p88, List.forall_mem_cons.mpr ⟨lw_p89, List.forall_mem_cons.mpr ⟨lw_p90, List.forall_mem_cons.mpr ⟨lw_p91, List.forall_mem_cons.mpr ⟨lw_p92, List.forall_mem_cons.mpr ⟨lw_p93, List.forall_mem_cons.mpr ⟨lw_p94, List.forall_mem_cons.mpr ⟨lw_p95, fun _ h => absurd h List.not_mem_nil⟩⟩⟩⟩⟩⟩⟩⟩⟩⟩⟩⟩⟩⟩⟩⟩
theorem lw_p96 : lw_okq (⟨"RumourRentModel", "happens", "(I)V"⟩, 34) := ⟨⟨by decide +kernel, by decide +kernel⟩, List.mem_of_getElem? (i := 1210) (by decide +kernel), List.mem_of_getElem? (i := 1648) (by decide +kernel), List.mem_of_getElem? (i := 1649) (by decide +kernel)⟩
theorem lw_p97 : lw_okq (⟨"RumourRentModel", "entry", "(II)I"⟩, 34) := ⟨⟨by decide +kernel, by decide +kernel⟩, List.mem_of_getElem? (i := 1210) (by decide +kernel), List.mem_of_getElem? (i := 1676) (by decide +kernel), List.mem_of_getElem? (i := 1677) (by decide +kernel)⟩
theorem lw_p98 : lw_okq (⟨"RumourRentModel", "rentsOf", "(I)I"⟩, 34) := ⟨⟨by decide +kernel, by decide +kernel⟩, List.mem_of_getElem? (i := 1210) (by decide +kernel), List.mem_of_getElem? (i := 1688) (by decide +kernel), List.mem_of_getElem? (i := 1689) (by decide +kernel)⟩
theorem lw_p99 : lw_okq (⟨"RumourRentModel", "layFars", "(II)I"⟩, 34) := ⟨⟨by decide +kernel, by decide +kernel⟩, List.mem_of_getElem? (i := 1210) (by decide +kernel), List.mem_of_getElem? (i := 1704) (by decide +kernel), List.mem_of_getElem? (i := 1705) (by decide +kernel)⟩
theorem lw_p100 : lw_okq (⟨"RumourRentModel", "outOf", "(I)I"⟩, 34) := ⟨⟨by decide +kernel, by decide +kernel⟩, List.mem_of_getElem? (i := 1210) (by decide +kernel), List.mem_of_getElem? (i := 1716) (by decide +kernel), List.mem_of_getElem? (i := 1717) (by decide +kernel)⟩
theorem lw_p101 : lw_okq (⟨"RumourRentModel", "areAllOne", "()Z"⟩, 34) := ⟨⟨by decide +kernel, by decide +kernel⟩, List.mem_of_getElem? (i := 1210) (by decide +kernel), List.mem_of_getElem? (i := 1724) (by decide +kernel), List.mem_of_getElem? (i := 1725) (by decide +kernel)⟩
theorem lw_p102 : lw_okq (⟨"RumourRentModel", "comeBy", "(II)I"⟩, 34) := ⟨⟨by decide +kernel, by decide +kernel⟩, List.mem_of_getElem? (i := 1210) (by decide +kernel), List.mem_of_getElem? (i := 1744) (by decide +kernel), List.mem_of_getElem? (i := 1745) (by decide +kernel)⟩
theorem lw_p103 : lw_okq (⟨"RumourRentModel", "layColours", "(I)J"⟩, 34) := ⟨⟨by decide +kernel, by decide +kernel⟩, List.mem_of_getElem? (i := 1210) (by decide +kernel), List.mem_of_getElem? (i := 1759) (by decide +kernel), List.mem_of_getElem? (i := 1760) (by decide +kernel)⟩
theorem lw_p104 : lw_okq (⟨"RumourRentModel", "isUnlike", "(I)Z"⟩, 34) := ⟨⟨by decide +kernel, by decide +kernel⟩, List.mem_of_getElem? (i := 1210) (by decide +kernel), List.mem_of_getElem? (i := 1763) (by decide +kernel), List.mem_of_getElem? (i := 1764) (by decide +kernel)⟩
theorem lw_p105 : lw_okq (⟨"RumourRentModel", "layRounds", "()I"⟩, 34) := ⟨⟨by decide +kernel, by decide +kernel⟩, List.mem_of_getElem? (i := 1210) (by decide +kernel), List.mem_of_getElem? (i := 1776) (by decide +kernel), List.mem_of_getElem? (i := 1777) (by decide +kernel)⟩
theorem lw_p106 : lw_okq (⟨"RumourRentModel", "areNear", "(I)Z"⟩, 34) := ⟨⟨by decide +kernel, by decide +kernel⟩, List.mem_of_getElem? (i := 1210) (by decide +kernel), List.mem_of_getElem? (i := 1792) (by decide +kernel), List.mem_of_getElem? (i := 1793) (by decide +kernel)⟩
theorem lw_p107 : lw_okq (⟨"RumourRentModel", "isSince", "(I)Z"⟩, 34) := ⟨⟨by decide +kernel, by decide +kernel⟩, List.mem_of_getElem? (i := 1210) (by decide +kernel), List.mem_of_getElem? (i := 1804) (by decide +kernel), List.mem_of_getElem? (i := 1805) (by decide +kernel)⟩
theorem lw_p108 : lw_okq (⟨"RumourRentModel", "sinceNow", "()I"⟩, 34) := ⟨⟨by decide +kernel, by decide +kernel⟩, List.mem_of_getElem? (i := 1210) (by decide +kernel), List.mem_of_getElem? (i := 1810) (by decide +kernel), List.mem_of_getElem? (i := 1811) (by decide +kernel)⟩
theorem lw_p109 : lw_okq (⟨"RumourRentModel", "beganBy", "(I)I"⟩, 34) := ⟨⟨by decide +kernel, by decide +kernel⟩, List.mem_of_getElem? (i := 1210) (by decide +kernel), List.mem_of_getElem? (i := 1818) (by decide +kernel), List.mem_of_getElem? (i := 1819) (by decide +kernel)⟩
theorem lw_p110 : lw_okq (⟨"RumourRentModel", "isBy", "(II)Z"⟩, 34) := ⟨⟨by decide +kernel, by decide +kernel⟩, List.mem_of_getElem? (i := 1210) (by decide +kernel), List.mem_of_getElem? (i := 1822) (by decide +kernel), List.mem_of_getElem? (i := 1823) (by decide +kernel)⟩
theorem lw_p111 : lw_okq (⟨"RumourRentModel", "mostAlike", "(II)I"⟩, 34) := ⟨⟨by decide +kernel, by decide +kernel⟩, List.mem_of_getElem? (i := 1210) (by decide +kernel), List.mem_of_getElem? (i := 1830) (by decide +kernel), List.mem_of_getElem? (i := 1831) (by decide +kernel)⟩
def lw_privs_7 : List (MethodName × Nat) := [(⟨"RumourRentModel", "happens", "(I)V"⟩, 34), (⟨"RumourRentModel", "entry", "(II)I"⟩, 34), (⟨"RumourRentModel", "rentsOf", "(I)I"⟩, 34), (⟨"RumourRentModel", "layFars", "(II)I"⟩, 34), (⟨"RumourRentModel", "outOf", "(I)I"⟩, 34), (⟨"RumourRentModel", "areAllOne", "()Z"⟩, 34), (⟨"RumourRentModel", "comeBy", "(II)I"⟩, 34), (⟨"RumourRentModel", "layColours", "(I)J"⟩, 34), (⟨"RumourRentModel", "isUnlike", "(I)Z"⟩, 34), (⟨"RumourRentModel", "layRounds", "()I"⟩, 34), (⟨"RumourRentModel", "areNear", "(I)Z"⟩, 34), (⟨"RumourRentModel", "isSince", "(I)Z"⟩, 34), (⟨"RumourRentModel", "sinceNow", "()I"⟩, 34), (⟨"RumourRentModel", "beganBy", "(I)I"⟩, 34), (⟨"RumourRentModel", "isBy", "(II)Z"⟩, 34), (⟨"RumourRentModel", "mostAlike", "(II)I"⟩, 34)]
theorem lw_r7 : ∀ q ∈ lw_privs_7, lw_okq q := List.forall_mem_cons.mpr ⟨lw_p96, List.forall_mem_cons.mpr ⟨lw_p97, List.forall_mem_cons.mpr ⟨lw_p98, List.forall_mem_cons.mpr ⟨lw_p99, List.forall_mem_cons.mpr ⟨lw_p100, List.forall_mem_cons.mpr ⟨lw_p101, List.forall_mem_cons.mpr ⟨lw_p102, List.forall_mem_cons.mpr ⟨lw_p103, List.forall_mem_cons.mpr ⟨lw_p104, List.forall_mem_cons.mpr ⟨lw_p105, List.forall_mem_cons.mpr ⟨lw_p106, List.forall_mem_cons.mpr ⟨lw_p107, List.forall_mem_cons.mpr ⟨lw_p108, List.forall_mem_cons.mpr ⟨lw_p109, List.forall_mem_cons.mpr ⟨lw_p110, List.forall_mem_cons.mpr ⟨lw_p111, fun _ h => absurd h List.not_mem_nil⟩⟩⟩⟩⟩⟩⟩⟩⟩⟩⟩⟩⟩⟩⟩⟩
theorem lw_p112 : lw_okq (⟨"RumourRentModel", "layPacked", "()I"⟩, 34) := ⟨⟨by decide +kernel, by decide +kernel⟩, List.mem_of_getElem? (i := 1210) (by decide +kernel), List.mem_of_getElem? (i := 1842) (by decide +kernel), List.mem_of_getElem? (i := 1843) (by decide +kernel)⟩
theorem lw_p113 : lw_okq (⟨"RumourRentModel", "inUse", "()I"⟩, 34) := ⟨⟨by decide +kernel, by decide +kernel⟩, List.mem_of_getElem? (i := 1210) (by decide +kernel), List.mem_of_getElem? (i := 1846) (by decide +kernel), List.mem_of_getElem? (i := 1847) (by decide +kernel)⟩
def lw_privs_8 : List (MethodName × Nat) := [(⟨"RumourRentModel", "layPacked", "()I"⟩, 34), (⟨"RumourRentModel", "inUse", "()I"⟩, 34)]
theorem lw_r8 : ∀ q ∈ lw_privs_8, lw_okq q := List.forall_mem_cons.mpr ⟨lw_p112, List.forall_mem_cons.mpr ⟨lw_p113, fun _ h => absurd h List.not_mem_nil⟩⟩
def lw_privs : List (MethodName × Nat) := lw_privs_1 ++ (lw_privs_2 ++ (lw_privs_3 ++ (lw_privs_4 ++ (lw_privs_5 ++ (lw_privs_6 ++ (lw_privs_7 ++ (lw_privs_8)))))))
def lw_tbl : List Cond := k2_sels lw_privs ++ tables_1
theorem lw_privs_ok : ∀ q ∈ lw_privs, lw_okq q := by
  show ∀ q ∈ lw_privs_1 ++ (lw_privs_2 ++ (lw_privs_3 ++ (lw_privs_4 ++ (lw_privs_5 ++ (lw_privs_6 ++ (lw_privs_7 ++ (lw_privs_8))))))), lw_okq q
  exact List.forall_mem_append.mpr ⟨lw_r1, List.forall_mem_append.mpr ⟨lw_r2, List.forall_mem_append.mpr ⟨lw_r3, List.forall_mem_append.mpr ⟨lw_r4, List.forall_mem_append.mpr ⟨lw_r5, List.forall_mem_append.mpr ⟨lw_r6, List.forall_mem_append.mpr ⟨lw_r7, lw_r8⟩⟩⟩⟩⟩⟩⟩
def RX0 : String := "RumourRent$Custom"
def TX0 : u_T := fun k => match k with
  | _ => ("RumourRent$Custom", "judge", "LRumourRent$Judge;", true)
def tyX0 : Nat → FieldType := fun k => match k with
  | _ => .object "RumourRent$Judge"
abbrev wsX00 : List Cond := u_ws RX0 TX0 1
theorem nmX0 : ∀ a, a < 1 → ∀ b, b < 1 → a ≠ b → (TX0 a).2.1 ≠ (TX0 b).2.1 := by decide +kernel
theorem tyX0_ok : ∀ k, k < 1 → parseFieldDescriptor (TX0 k).2.2.1 = some (tyX0 k) := by decide +kernel
def RX1 : String := "RumourRent$Inquiry"
def TX1 : u_T := fun k => match k with
  | 0 => ("RumourRent$Inquiry", "streets", "LRumourRent$Streets;", true)
  | 1 => ("RumourRent$Inquiry", "notes", "LRumourRent$Notes;", true)
  | 2 => ("RumourRent$Inquiry", "start", "[I", true)
  | 3 => ("RumourRent$Inquiry", "error", "[I", true)
  | _ => ("RumourRent$Inquiry", "hearing", "[I", true)
def tyX1 : Nat → FieldType := fun k => match k with
  | 0 => .object "RumourRent$Streets"
  | 1 => .object "RumourRent$Notes"
  | 2 => .array .int
  | 3 => .array .int
  | _ => .array .int
abbrev wsX10 : List Cond := u_ws RX1 TX1 5
theorem nmX1 : ∀ a, a < 5 → ∀ b, b < 5 → a ≠ b → (TX1 a).2.1 ≠ (TX1 b).2.1 := by decide +kernel
theorem tyX1_ok : ∀ k, k < 5 → parseFieldDescriptor (TX1 k).2.2.1 = some (tyX1 k) := by decide +kernel
def RX2 : String := "RumourRent$Judge"
def TX2 : u_T := fun k => match k with
  | 0 => ("RumourRent$Judge", "stack", "[I", true)
  | _ => ("RumourRent$Judge", "top", "I", false)
def tyX2 : Nat → FieldType := fun k => match k with
  | 0 => .array .int
  | _ => .int
abbrev wsX20 : List Cond := u_ws RX2 TX2 2
theorem nmX2 : ∀ a, a < 2 → ∀ b, b < 2 → a ≠ b → (TX2 a).2.1 ≠ (TX2 b).2.1 := by decide +kernel
theorem tyX2_ok : ∀ k, k < 2 → parseFieldDescriptor (TX2 k).2.2.1 = some (tyX2 k) := by decide +kernel
def RX3 : String := "RumourRent$Lodging"
def TX3 : u_T := fun k => match k with
  | 0 => ("RumourRent$Lodging", "town", "LRumourRent$Town;", true)
  | 1 => ("RumourRent$Lodging", "notes", "LRumourRent$Notes;", true)
  | 2 => ("RumourRent$Lodging", "left", "[I", true)
  | 3 => ("RumourRent$Lodging", "size", "[I", true)
  | 4 => ("RumourRent$Lodging", "fewest", "[I", true)
  | 5 => ("RumourRent$Lodging", "taken", "I", false)
  | _ => ("RumourRent$Lodging", "place", "[I", true)
def tyX3 : Nat → FieldType := fun k => match k with
  | 0 => .object "RumourRent$Town"
  | 1 => .object "RumourRent$Notes"
  | 2 => .array .int
  | 3 => .array .int
  | 4 => .array .int
  | 5 => .int
  | _ => .array .int
abbrev wsX30 : List Cond := u_ws RX3 TX3 7
theorem nmX3 : ∀ a, a < 7 → ∀ b, b < 7 → a ≠ b → (TX3 a).2.1 ≠ (TX3 b).2.1 := by decide +kernel
theorem tyX3_ok : ∀ k, k < 7 → parseFieldDescriptor (TX3 k).2.2.1 = some (tyX3 k) := by decide +kernel
def RX4 : String := "RumourRent$Notes"
def TX4 : u_T := fun k => match k with
  | 0 => ("RumourRent$Notes", "heardHouse", "[I", true)
  | 1 => ("RumourRent$Notes", "heardDay", "[I", true)
  | 2 => ("RumourRent$Notes", "heardCount", "I", false)
  | 3 => ("RumourRent$Notes", "guests", "[I", true)
  | 4 => ("RumourRent$Notes", "guestCount", "I", false)
  | 5 => ("RumourRent$Notes", "saidHouse", "[I", true)
  | 6 => ("RumourRent$Notes", "saidRumour", "[I", true)
  | 7 => ("RumourRent$Notes", "saidRent", "[I", true)
  | _ => ("RumourRent$Notes", "saidCount", "I", false)
def tyX4 : Nat → FieldType := fun k => match k with
  | 0 => .array .int
  | 1 => .array .int
  | 2 => .int
  | 3 => .array .int
  | 4 => .int
  | 5 => .array .int
  | 6 => .array .int
  | 7 => .array .int
  | _ => .int
abbrev wsX40 : List Cond := u_ws RX4 TX4 9
theorem nmX4 : ∀ a, a < 9 → ∀ b, b < 9 → a ≠ b → (TX4 a).2.1 ≠ (TX4 b).2.1 := by decide +kernel
theorem tyX4_ok : ∀ k, k < 9 → parseFieldDescriptor (TX4 k).2.2.1 = some (tyX4 k) := by decide +kernel
def RX5 : String := "RumourRent$Reader"
def TX5 : u_T := fun k => match k with
  | 0 => ("RumourRent$Reader", "tape", "[I", true)
  | 1 => ("RumourRent$Reader", "length", "I", false)
  | 2 => ("RumourRent$Reader", "fault", "I", false)
  | 3 => ("RumourRent$Reader", "place", "I", false)
  | 4 => ("RumourRent$Reader", "at", "I", false)
  | 5 => ("RumourRent$Reader", "start", "I", false)
  | 6 => ("RumourRent$Reader", "kind", "I", false)
  | 7 => ("RumourRent$Reader", "number", "I", false)
  | 8 => ("RumourRent$Reader", "law", "I", false)
  | _ => ("RumourRent$Reader", "into", "LRumourRent$Text;", false)
def tyX5 : Nat → FieldType := fun k => match k with
  | 0 => .array .int
  | 1 => .int
  | 2 => .int
  | 3 => .int
  | 4 => .int
  | 5 => .int
  | 6 => .int
  | 7 => .int
  | 8 => .int
  | _ => .object "RumourRent$Text"
abbrev wsX50 : List Cond := u_ws RX5 TX5 10
theorem nmX5 : ∀ a, a < 10 → ∀ b, b < 10 → a ≠ b → (TX5 a).2.1 ≠ (TX5 b).2.1 := by decide +kernel
theorem tyX5_ok : ∀ k, k < 10 → parseFieldDescriptor (TX5 k).2.2.1 = some (tyX5 k) := by decide +kernel
def RX6 : String := "RumourRent$Steps"
def TX6 : u_T := fun k => match k with
  | 0 => ("RumourRent$Steps", "rows", "[I", true)
  | 1 => ("RumourRent$Steps", "first", "I", false)
  | _ => ("RumourRent$Steps", "count", "I", false)
def tyX6 : Nat → FieldType := fun k => match k with
  | 0 => .array .int
  | 1 => .int
  | _ => .int
abbrev wsX60 : List Cond := u_ws RX6 TX6 3
theorem nmX6 : ∀ a, a < 3 → ∀ b, b < 3 → a ≠ b → (TX6 a).2.1 ≠ (TX6 b).2.1 := by decide +kernel
theorem tyX6_ok : ∀ k, k < 3 → parseFieldDescriptor (TX6 k).2.2.1 = some (tyX6 k) := by decide +kernel
def RX7 : String := "RumourRent$Streets"
def TX7 : u_T := fun k => match k with
  | 0 => ("RumourRent$Streets", "town", "LRumourRent$Town;", true)
  | 1 => ("RumourRent$Streets", "far", "[I", true)
  | 2 => ("RumourRent$Streets", "inside", "[I", true)
  | 3 => ("RumourRent$Streets", "ways", "[I", true)
  | 4 => ("RumourRent$Streets", "matrix", "[I", true)
  | 5 => ("RumourRent$Streets", "walk", "[I", true)
  | 6 => ("RumourRent$Streets", "found", "I", false)
  | 7 => ("RumourRent$Streets", "firstRound", "[I", true)
  | _ => ("RumourRent$Streets", "tints", "[I", true)
def tyX7 : Nat → FieldType := fun k => match k with
  | 0 => .object "RumourRent$Town"
  | 1 => .array .int
  | 2 => .array .int
  | 3 => .array .int
  | 4 => .array .int
  | 5 => .array .int
  | 6 => .int
  | 7 => .array .int
  | _ => .array .int
abbrev wsX70 : List Cond := u_ws RX7 TX7 9
theorem nmX7 : ∀ a, a < 9 → ∀ b, b < 9 → a ≠ b → (TX7 a).2.1 ≠ (TX7 b).2.1 := by decide +kernel
theorem tyX7_ok : ∀ k, k < 9 → parseFieldDescriptor (TX7 k).2.2.1 = some (tyX7 k) := by decide +kernel
def RX8 : String := "RumourRent$Text"
def TX8 : u_T := fun k => match k with
  | 0 => ("RumourRent$Text", "code", "[I", true)
  | 1 => ("RumourRent$Text", "used", "I", false)
  | 2 => ("RumourRent$Text", "clauses", "[I", true)
  | 3 => ("RumourRent$Text", "clauseCount", "I", false)
  | 4 => ("RumourRent$Text", "lawFrom", "[I", true)
  | _ => ("RumourRent$Text", "lawTo", "[I", true)
def tyX8 : Nat → FieldType := fun k => match k with
  | 0 => .array .int
  | 1 => .int
  | 2 => .array .int
  | 3 => .int
  | 4 => .array .int
  | _ => .array .int
abbrev wsX80 : List Cond := u_ws RX8 TX8 6
theorem nmX8 : ∀ a, a < 6 → ∀ b, b < 6 → a ≠ b → (TX8 a).2.1 ≠ (TX8 b).2.1 := by decide +kernel
theorem tyX8_ok : ∀ k, k < 6 → parseFieldDescriptor (TX8 k).2.2.1 = some (tyX8 k) := by decide +kernel
def RX9 : String := "RumourRent$Town"
def TX9 : u_T := fun k => match k with
  | 0 => ("RumourRent$Town", "rooms", "[I", true)
  | 1 => ("RumourRent$Town", "income", "[I", true)
  | 2 => ("RumourRent$Town", "beside", "[I", true)
  | 3 => ("RumourRent$Town", "truth", "[I", true)
  | 4 => ("RumourRent$Town", "purse", "[I", true)
  | 5 => ("RumourRent$Town", "purseTold", "[I", true)
  | 6 => ("RumourRent$Town", "keepers", "[I", true)
  | 7 => ("RumourRent$Town", "pages", "[I", true)
  | 8 => ("RumourRent$Town", "written", "I", false)
  | 9 => ("RumourRent$Town", "roadCount", "I", false)
  | 10 => ("RumourRent$Town", "rumourCount", "I", false)
  | 11 => ("RumourRent$Town", "day", "I", false)
  | 12 => ("RumourRent$Town", "x", "I", false)
  | 13 => ("RumourRent$Town", "paid", "I", false)
  | 14 => ("RumourRent$Town", "textCount", "I", false)
  | _ => ("RumourRent$Town", "ruling", "I", false)
def tyX9 : Nat → FieldType := fun k => match k with
  | 0 => .array .int
  | 1 => .array .int
  | 2 => .array .int
  | 3 => .array .int
  | 4 => .array .int
  | 5 => .array .int
  | 6 => .array .int
  | 7 => .array .int
  | 8 => .int
  | 9 => .int
  | 10 => .int
  | 11 => .int
  | 12 => .int
  | 13 => .int
  | 14 => .int
  | _ => .int
abbrev wsX90 : List Cond := u_ws RX9 TX9 16
theorem nmX9 : ∀ a, a < 16 → ∀ b, b < 16 → a ≠ b → (TX9 a).2.1 ≠ (TX9 b).2.1 := by decide +kernel
theorem tyX9_ok : ∀ k, k < 16 → parseFieldDescriptor (TX9 k).2.2.1 = some (tyX9 k) := by decide +kernel
def RX10 : String := "RumourRent"
def TX10 : u_T := fun k => match k with
  | 0 => ("RumourRent", "town", "LRumourRent$Town;", true)
  | 1 => ("RumourRent", "townKept", "LRumourRent$Town;", true)
  | 2 => ("RumourRent", "townAhead", "LRumourRent$Town;", true)
  | 3 => ("RumourRent", "steps", "LRumourRent$Steps;", true)
  | 4 => ("RumourRent", "stepsKept", "LRumourRent$Steps;", true)
  | 5 => ("RumourRent", "notes", "LRumourRent$Notes;", true)
  | 6 => ("RumourRent", "notesKept", "LRumourRent$Notes;", true)
  | 7 => ("RumourRent", "texts", "[LRumourRent$Text;", true)
  | 8 => ("RumourRent", "reader", "LRumourRent$Reader;", true)
  | 9 => ("RumourRent", "judge", "LRumourRent$Judge;", true)
  | 10 => ("RumourRent", "custom", "LRumourRent$Custom;", true)
  | 11 => ("RumourRent", "streets", "LRumourRent$Streets;", true)
  | 12 => ("RumourRent", "inquiry", "LRumourRent$Inquiry;", true)
  | _ => ("RumourRent", "lodging", "LRumourRent$Lodging;", true)
def tyX10 : Nat → FieldType := fun k => match k with
  | 0 => .object "RumourRent$Town"
  | 1 => .object "RumourRent$Town"
  | 2 => .object "RumourRent$Town"
  | 3 => .object "RumourRent$Steps"
  | 4 => .object "RumourRent$Steps"
  | 5 => .object "RumourRent$Notes"
  | 6 => .object "RumourRent$Notes"
  | 7 => .array (.object "RumourRent$Text")
  | 8 => .object "RumourRent$Reader"
  | 9 => .object "RumourRent$Judge"
  | 10 => .object "RumourRent$Custom"
  | 11 => .object "RumourRent$Streets"
  | 12 => .object "RumourRent$Inquiry"
  | _ => .object "RumourRent$Lodging"
abbrev wsX100 : List Cond := u_ws RX10 TX10 14
theorem nmX10 : ∀ a, a < 14 → ∀ b, b < 14 → a ≠ b → (TX10 a).2.1 ≠ (TX10 b).2.1 := by decide +kernel
theorem tyX10_ok : ∀ k, k < 14 → parseFieldDescriptor (TX10 k).2.2.1 = some (tyX10 k) := by decide +kernel
def RX11 : String := "RumourRentModel"
def TX11 : u_T := fun k => match k with
  | 0 => ("RumourRentModel", "a", "[I", true)
  | 1 => ("RumourRentModel", "image", "[I", true)
  | 2 => ("RumourRentModel", "texts", "[I", true)
  | 3 => ("RumourRentModel", "tape", "[I", true)
  | 4 => ("RumourRentModel", "taped", "I", false)
  | 5 => ("RumourRentModel", "fault", "I", false)
  | 6 => ("RumourRentModel", "faultPlace", "I", false)
  | 7 => ("RumourRentModel", "at", "I", false)
  | 8 => ("RumourRentModel", "place", "I", false)
  | 9 => ("RumourRentModel", "token", "I", false)
  | 10 => ("RumourRentModel", "number", "I", false)
  | 11 => ("RumourRentModel", "word", "J", false)
  | 12 => ("RumourRentModel", "text0", "I", false)
  | 13 => ("RumourRentModel", "written", "I", false)
  | 14 => ("RumourRentModel", "sort0", "I", false)
  | 15 => ("RumourRentModel", "pile", "[I", true)
  | 16 => ("RumourRentModel", "piled", "I", false)
  | 17 => ("RumourRentModel", "opens", "I", false)
  | 18 => ("RumourRentModel", "isWhole", "Z", false)
  | 19 => ("RumourRentModel", "once", "I", false)
  | 20 => ("RumourRentModel", "named", "[I", true)
  | 21 => ("RumourRentModel", "values", "[J", true)
  | 22 => ("RumourRentModel", "truth", "[Z", true)
  | 23 => ("RumourRentModel", "isWritten", "Z", false)
  | 24 => ("RumourRentModel", "rents", "I", false)
  | 25 => ("RumourRentModel", "aside", "[I", true)
  | 26 => ("RumourRentModel", "fars", "[I", true)
  | 27 => ("RumourRentModel", "row", "[I", true)
  | 28 => ("RumourRentModel", "firstRow", "[I", true)
  | 29 => ("RumourRentModel", "nears", "[I", true)
  | 30 => ("RumourRentModel", "least", "I", false)
  | 31 => ("RumourRentModel", "most", "I", false)
  | 32 => ("RumourRentModel", "hears", "[I", true)
  | _ => ("RumourRentModel", "loads", "[I", true)
def tyX11 : Nat → FieldType := fun k => match k with
  | 0 => .array .int
  | 1 => .array .int
  | 2 => .array .int
  | 3 => .array .int
  | 4 => .int
  | 5 => .int
  | 6 => .int
  | 7 => .int
  | 8 => .int
  | 9 => .int
  | 10 => .int
  | 11 => .long
  | 12 => .int
  | 13 => .int
  | 14 => .int
  | 15 => .array .int
  | 16 => .int
  | 17 => .int
  | 18 => .boolean
  | 19 => .int
  | 20 => .array .int
  | 21 => .array .long
  | 22 => .array .boolean
  | 23 => .boolean
  | 24 => .int
  | 25 => .array .int
  | 26 => .array .int
  | 27 => .array .int
  | 28 => .array .int
  | 29 => .array .int
  | 30 => .int
  | 31 => .int
  | 32 => .array .int
  | _ => .array .int
abbrev wsX110 : List Cond := u_ws RX11 TX11 34
theorem nmX11 : ∀ a, a < 34 → ∀ b, b < 34 → a ≠ b → (TX11 a).2.1 ≠ (TX11 b).2.1 := by decide +kernel
theorem tyX11_ok : ∀ k, k < 34 → parseFieldDescriptor (TX11 k).2.2.1 = some (tyX11 k) := by decide +kernel
abbrev vwCl : List vw_C := [(RX0, TX0, 1), (RX1, TX1, 5), (RX2, TX2, 2), (RX3, TX3, 7), (RX4, TX4, 9), (RX5, TX5, 10), (RX6, TX6, 3), (RX7, TX7, 9), (RX8, TX8, 6), (RX9, TX9, 16), (RX10, TX10, 14), (RX11, TX11, 34)]
theorem plX0 : wsX00 = ([400] : List Nat).filterMap (fun i => lw_tbl[i]?) := by decide +kernel
theorem inX0 : ∀ w ∈ wsX00, w ∈ lw_tbl := by
  intro w hw
  rw [plX0] at hw
  obtain ⟨i, -, hi⟩ := List.mem_filterMap.mp hw
  exact List.mem_of_getElem? hi
theorem plX1 : wsX10 = ([451, 453, 455, 457, 459] : List Nat).filterMap (fun i => lw_tbl[i]?) := by decide +kernel
theorem inX1 : ∀ w ∈ wsX10, w ∈ lw_tbl := by
  intro w hw
  rw [plX1] at hw
  obtain ⟨i, -, hi⟩ := List.mem_filterMap.mp hw
  exact List.mem_of_getElem? hi
theorem plX2 : wsX20 = ([388, 390] : List Nat).filterMap (fun i => lw_tbl[i]?) := by decide +kernel
theorem inX2 : ∀ w ∈ wsX20, w ∈ lw_tbl := by
  intro w hw
  rw [plX2] at hw
  obtain ⟨i, -, hi⟩ := List.mem_filterMap.mp hw
  exact List.mem_of_getElem? hi
theorem plX3 : wsX30 = ([476, 478, 480, 482, 484, 486, 488] : List Nat).filterMap (fun i => lw_tbl[i]?) := by decide +kernel
theorem inX3 : ∀ w ∈ wsX30, w ∈ lw_tbl := by
  intro w hw
  rw [plX3] at hw
  obtain ⟨i, -, hi⟩ := List.mem_filterMap.mp hw
  exact List.mem_of_getElem? hi
theorem plX4 : wsX40 = ([286, 288, 290, 292, 294, 296, 298, 300, 302] : List Nat).filterMap (fun i => lw_tbl[i]?) := by decide +kernel
theorem inX4 : ∀ w ∈ wsX40, w ∈ lw_tbl := by
  intro w hw
  rw [plX4] at hw
  obtain ⟨i, -, hi⟩ := List.mem_filterMap.mp hw
  exact List.mem_of_getElem? hi
theorem plX5 : wsX50 = ([359, 361, 363, 365, 367, 369, 371, 373, 375, 377] : List Nat).filterMap (fun i => lw_tbl[i]?) := by decide +kernel
theorem inX5 : ∀ w ∈ wsX50, w ∈ lw_tbl := by
  intro w hw
  rw [plX5] at hw
  obtain ⟨i, -, hi⟩ := List.mem_filterMap.mp hw
  exact List.mem_of_getElem? hi
theorem plX6 : wsX60 = ([250, 252, 254] : List Nat).filterMap (fun i => lw_tbl[i]?) := by decide +kernel
theorem inX6 : ∀ w ∈ wsX60, w ∈ lw_tbl := by
  intro w hw
  rw [plX6] at hw
  obtain ⟨i, -, hi⟩ := List.mem_filterMap.mp hw
  exact List.mem_of_getElem? hi
theorem plX7 : wsX70 = ([420, 422, 424, 426, 428, 430, 432, 434, 436] : List Nat).filterMap (fun i => lw_tbl[i]?) := by decide +kernel
theorem inX7 : ∀ w ∈ wsX70, w ∈ lw_tbl := by
  intro w hw
  rw [plX7] at hw
  obtain ⟨i, -, hi⟩ := List.mem_filterMap.mp hw
  exact List.mem_of_getElem? hi
theorem plX8 : wsX80 = ([327, 329, 331, 333, 335, 337] : List Nat).filterMap (fun i => lw_tbl[i]?) := by decide +kernel
theorem inX8 : ∀ w ∈ wsX80, w ∈ lw_tbl := by
  intro w hw
  rw [plX8] at hw
  obtain ⟨i, -, hi⟩ := List.mem_filterMap.mp hw
  exact List.mem_of_getElem? hi
theorem plX9 : wsX90 = ([206, 208, 210, 212, 214, 216, 218, 220, 222, 224, 226, 228, 230, 232, 234, 236] : List Nat).filterMap (fun i => lw_tbl[i]?) := by decide +kernel
theorem inX9 : ∀ w ∈ wsX90, w ∈ lw_tbl := by
  intro w hw
  rw [plX9] at hw
  obtain ⟨i, -, hi⟩ := List.mem_filterMap.mp hw
  exact List.mem_of_getElem? hi
theorem plX10 : wsX100 = ([505, 507, 509, 511, 513, 515, 517, 519, 521, 523, 525, 527, 529, 531] : List Nat).filterMap (fun i => lw_tbl[i]?) := by decide +kernel
theorem inX10 : ∀ w ∈ wsX100, w ∈ lw_tbl := by
  intro w hw
  rw [plX10] at hw
  obtain ⟨i, -, hi⟩ := List.mem_filterMap.mp hw
  exact List.mem_of_getElem? hi
theorem plX11 : wsX110 = ([1366, 1368, 1370, 1372, 1374, 1376, 1378, 1380, 1382, 1384, 1386, 1388, 1390, 1392, 1394, 1396, 1398, 1400, 1402, 1404, 1406, 1408, 1410, 1412, 1414, 1416, 1418, 1420, 1422, 1424, 1426, 1428, 1430, 1432] : List Nat).filterMap (fun i => lw_tbl[i]?) := by decide +kernel
theorem inX11 : ∀ w ∈ wsX110, w ∈ lw_tbl := by
  intro w hw
  rw [plX11] at hw
  obtain ⟨i, -, hi⟩ := List.mem_filterMap.mp hw
  exact List.mem_of_getElem? hi
