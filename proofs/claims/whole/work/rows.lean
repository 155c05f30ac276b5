section
-- ===== PART A: goes FIRST, ahead of the names: the tables' words, and 'selects' of the private methods out of them =====
/-- a private method of a class that the tables say can be made, by its rows of tables_1 -/
def lw_okq (q : MethodName × Nat) : Prop := (q.1.cls ≠ "java/lang/invoke/MethodHandle" ∧ q.1.cls ≠ "java/lang/invoke/VarHandle") ∧ Cond.instantiable q.1.cls q.2 ∈ tables_1 ∧ Cond.privateMethod q.1 ∈ tables_1 ∧ Cond.instanceMethod q.1 ∈ tables_1
theorem lw_p0 : lw_okq (⟨"java/lang/Throwable", "fillInStackTrace", "(I)Ljava/lang/Throwable;"⟩, 6) := ⟨⟨by decide +kernel, by decide +kernel⟩, List.mem_of_getElem? (i := 210) (by decide +kernel), List.mem_of_getElem? (i := 208) (by decide +kernel), List.mem_of_getElem? (i := 209) (by decide +kernel)⟩
theorem lw_p1 : lw_okq (⟨"DefaultFund$Member", "join", "(III)V"⟩, 13) := ⟨⟨by decide +kernel, by decide +kernel⟩, List.mem_of_getElem? (i := 56) (by decide +kernel), List.mem_of_getElem? (i := 256) (by decide +kernel), List.mem_of_getElem? (i := 257) (by decide +kernel)⟩
theorem lw_p2 : lw_okq (⟨"DefaultFund", "existing", "(I)LDefaultFund$Member;"⟩, 8) := ⟨⟨by decide +kernel, by decide +kernel⟩, List.mem_of_getElem? (i := 14) (by decide +kernel), List.mem_of_getElem? (i := 268) (by decide +kernel), List.mem_of_getElem? (i := 269) (by decide +kernel)⟩
theorem lw_p3 : lw_okq (⟨"DefaultFund$Member", "isActive", "()Z"⟩, 13) := ⟨⟨by decide +kernel, by decide +kernel⟩, List.mem_of_getElem? (i := 56) (by decide +kernel), List.mem_of_getElem? (i := 291) (by decide +kernel), List.mem_of_getElem? (i := 292) (by decide +kernel)⟩
theorem lw_p4 : lw_okq (⟨"DefaultFund$Member", "takesClient", "(I)Z"⟩, 13) := ⟨⟨by decide +kernel, by decide +kernel⟩, List.mem_of_getElem? (i := 56) (by decide +kernel), List.mem_of_getElem? (i := 296) (by decide +kernel), List.mem_of_getElem? (i := 297) (by decide +kernel)⟩
theorem lw_p5 : lw_okq (⟨"DefaultFund$Member", "freeRoom", "()I"⟩, 13) := ⟨⟨by decide +kernel, by decide +kernel⟩, List.mem_of_getElem? (i := 56) (by decide +kernel), List.mem_of_getElem? (i := 300) (by decide +kernel), List.mem_of_getElem? (i := 301) (by decide +kernel)⟩
theorem lw_p6 : lw_okq (⟨"DefaultFund", "requireNoFailure", "()V"⟩, 8) := ⟨⟨by decide +kernel, by decide +kernel⟩, List.mem_of_getElem? (i := 14) (by decide +kernel), List.mem_of_getElem? (i := 335) (by decide +kernel), List.mem_of_getElem? (i := 336) (by decide +kernel)⟩
theorem lw_p7 : lw_okq (⟨"DefaultFund", "neededFund", "()I"⟩, 8) := ⟨⟨by decide +kernel, by decide +kernel⟩, List.mem_of_getElem? (i := 14) (by decide +kernel), List.mem_of_getElem? (i := 347) (by decide +kernel), List.mem_of_getElem? (i := 348) (by decide +kernel)⟩
theorem lw_p8 : lw_okq (⟨"DefaultFund$Parting", "enter", "(III)V"⟩, 3) := ⟨⟨by decide +kernel, by decide +kernel⟩, List.mem_of_getElem? (i := 41) (by decide +kernel), List.mem_of_getElem? (i := 357) (by decide +kernel), List.mem_of_getElem? (i := 358) (by decide +kernel)⟩
theorem lw_p9 : lw_okq (⟨"DefaultFund$Parting", "part", "(I)I"⟩, 3) := ⟨⟨by decide +kernel, by decide +kernel⟩, List.mem_of_getElem? (i := 41) (by decide +kernel), List.mem_of_getElem? (i := 361) (by decide +kernel), List.mem_of_getElem? (i := 362) (by decide +kernel)⟩
theorem lw_p10 : lw_okq (⟨"DefaultFund$Parting", "giveCoins", "(I)I"⟩, 3) := ⟨⟨by decide +kernel, by decide +kernel⟩, List.mem_of_getElem? (i := 41) (by decide +kernel), List.mem_of_getElem? (i := 366) (by decide +kernel), List.mem_of_getElem? (i := 367) (by decide +kernel)⟩
theorem lw_p11 : lw_okq (⟨"DefaultFund$Parting", "roundsAtAStroke", "(I)I"⟩, 3) := ⟨⟨by decide +kernel, by decide +kernel⟩, List.mem_of_getElem? (i := 41) (by decide +kernel), List.mem_of_getElem? (i := 370) (by decide +kernel), List.mem_of_getElem? (i := 371) (by decide +kernel)⟩
theorem lw_p12 : lw_okq (⟨"DefaultFund$Parting", "canTake", "(I)Z"⟩, 3) := ⟨⟨by decide +kernel, by decide +kernel⟩, List.mem_of_getElem? (i := 41) (by decide +kernel), List.mem_of_getElem? (i := 374) (by decide +kernel), List.mem_of_getElem? (i := 375) (by decide +kernel)⟩
theorem lw_p13 : lw_okq (⟨"DefaultFund$Parting", "partOf", "(I)I"⟩, 3) := ⟨⟨by decide +kernel, by decide +kernel⟩, List.mem_of_getElem? (i := 41) (by decide +kernel), List.mem_of_getElem? (i := 379) (by decide +kernel), List.mem_of_getElem? (i := 380) (by decide +kernel)⟩
theorem lw_p14 : lw_okq (⟨"DefaultFund$Member", "raiseShare", "(I)I"⟩, 13) := ⟨⟨by decide +kernel, by decide +kernel⟩, List.mem_of_getElem? (i := 56) (by decide +kernel), List.mem_of_getElem? (i := 383) (by decide +kernel), List.mem_of_getElem? (i := 384) (by decide +kernel)⟩
theorem lw_p15 : lw_okq (⟨"DefaultFund", "moveClients", "(LDefaultFund$Member;)I"⟩, 8) := ⟨⟨by decide +kernel, by decide +kernel⟩, List.mem_of_getElem? (i := 14) (by decide +kernel), List.mem_of_getElem? (i := 395) (by decide +kernel), List.mem_of_getElem? (i := 396) (by decide +kernel)⟩
def lw_privs_1 : List (MethodName × Nat) := [(⟨"java/lang/Throwable", "fillInStackTrace", "(I)Ljava/lang/Throwable;"⟩, 6), (⟨"DefaultFund$Member", "join", "(III)V"⟩, 13), (⟨"DefaultFund", "existing", "(I)LDefaultFund$Member;"⟩, 8), (⟨"DefaultFund$Member", "isActive", "()Z"⟩, 13), (⟨"DefaultFund$Member", "takesClient", "(I)Z"⟩, 13), (⟨"DefaultFund$Member", "freeRoom", "()I"⟩, 13), (⟨"DefaultFund", "requireNoFailure", "()V"⟩, 8), (⟨"DefaultFund", "neededFund", "()I"⟩, 8), (⟨"DefaultFund$Parting", "enter", "(III)V"⟩, 3), (⟨"DefaultFund$Parting", "part", "(I)I"⟩, 3), (⟨"DefaultFund$Parting", "giveCoins", "(I)I"⟩, 3), (⟨"DefaultFund$Parting", "roundsAtAStroke", "(I)I"⟩, 3), (⟨"DefaultFund$Parting", "canTake", "(I)Z"⟩, 3), (⟨"DefaultFund$Parting", "partOf", "(I)I"⟩, 3), (⟨"DefaultFund$Member", "raiseShare", "(I)I"⟩, 13), (⟨"DefaultFund", "moveClients", "(LDefaultFund$Member;)I"⟩, 8)]
theorem lw_r1 : ∀ q ∈ lw_privs_1, lw_okq q := List.forall_mem_cons.mpr ⟨lw_p0, List.forall_mem_cons.mpr ⟨lw_p1, List.forall_mem_cons.mpr ⟨lw_p2, List.forall_mem_cons.mpr ⟨lw_p3, List.forall_mem_cons.mpr ⟨lw_p4, List.forall_mem_cons.mpr ⟨lw_p5, List.forall_mem_cons.mpr ⟨lw_p6, List.forall_mem_cons.mpr ⟨lw_p7, List.forall_mem_cons.mpr ⟨lw_p8, List.forall_mem_cons.mpr ⟨lw_p9, List.forall_mem_cons.mpr ⟨lw_p10, List.forall_mem_cons.mpr ⟨lw_p11, List.forall_mem_cons.mpr ⟨lw_p12, List.forall_mem_cons.mpr ⟨lw_p13, List.forall_mem_cons.mpr ⟨lw_p14, List.forall_mem_cons.mpr ⟨lw_p15, fun _ h => absurd h List.not_mem_nil⟩⟩⟩⟩⟩⟩⟩⟩⟩⟩⟩⟩⟩⟩⟩⟩
theorem lw_p16 : lw_okq (⟨"DefaultFund", "findsHost", "(I)Z"⟩, 8) := ⟨⟨by decide +kernel, by decide +kernel⟩, List.mem_of_getElem? (i := 14) (by decide +kernel), List.mem_of_getElem? (i := 399) (by decide +kernel), List.mem_of_getElem? (i := 400) (by decide +kernel)⟩
theorem lw_p17 : lw_okq (⟨"DefaultFund$Member", "dropClients", "()V"⟩, 13) := ⟨⟨by decide +kernel, by decide +kernel⟩, List.mem_of_getElem? (i := 56) (by decide +kernel), List.mem_of_getElem? (i := 403) (by decide +kernel), List.mem_of_getElem? (i := 404) (by decide +kernel)⟩
theorem lw_p18 : lw_okq (⟨"DefaultFund$Auction", "open", "(I)V"⟩, 2) := ⟨⟨by decide +kernel, by decide +kernel⟩, List.mem_of_getElem? (i := 24) (by decide +kernel), List.mem_of_getElem? (i := 407) (by decide +kernel), List.mem_of_getElem? (i := 408) (by decide +kernel)⟩
theorem lw_p19 : lw_okq (⟨"DefaultFund$Auction", "hasLot", "(I)Z"⟩, 2) := ⟨⟨by decide +kernel, by decide +kernel⟩, List.mem_of_getElem? (i := 24) (by decide +kernel), List.mem_of_getElem? (i := 419) (by decide +kernel), List.mem_of_getElem? (i := 420) (by decide +kernel)⟩
theorem lw_p20 : lw_okq (⟨"DefaultFund$Auction", "bidOf", "(II)I"⟩, 2) := ⟨⟨by decide +kernel, by decide +kernel⟩, List.mem_of_getElem? (i := 24) (by decide +kernel), List.mem_of_getElem? (i := 424) (by decide +kernel), List.mem_of_getElem? (i := 425) (by decide +kernel)⟩
theorem lw_p21 : lw_okq (⟨"DefaultFund$Auction", "enter", "(III)V"⟩, 2) := ⟨⟨by decide +kernel, by decide +kernel⟩, List.mem_of_getElem? (i := 24) (by decide +kernel), List.mem_of_getElem? (i := 429) (by decide +kernel), List.mem_of_getElem? (i := 430) (by decide +kernel)⟩
theorem lw_p22 : lw_okq (⟨"DefaultFund", "awardLots", "()I"⟩, 8) := ⟨⟨by decide +kernel, by decide +kernel⟩, List.mem_of_getElem? (i := 14) (by decide +kernel), List.mem_of_getElem? (i := 441) (by decide +kernel), List.mem_of_getElem? (i := 442) (by decide +kernel)⟩
theorem lw_p23 : lw_okq (⟨"DefaultFund$Auction", "winnerOf", "(I)I"⟩, 2) := ⟨⟨by decide +kernel, by decide +kernel⟩, List.mem_of_getElem? (i := 24) (by decide +kernel), List.mem_of_getElem? (i := 445) (by decide +kernel), List.mem_of_getElem? (i := 446) (by decide +kernel)⟩
theorem lw_p24 : lw_okq (⟨"DefaultFund", "rankBidders", "()V"⟩, 8) := ⟨⟨by decide +kernel, by decide +kernel⟩, List.mem_of_getElem? (i := 14) (by decide +kernel), List.mem_of_getElem? (i := 449) (by decide +kernel), List.mem_of_getElem? (i := 450) (by decide +kernel)⟩
theorem lw_p25 : lw_okq (⟨"DefaultFund$Auction", "bidPoorly", "(I)Z"⟩, 2) := ⟨⟨by decide +kernel, by decide +kernel⟩, List.mem_of_getElem? (i := 24) (by decide +kernel), List.mem_of_getElem? (i := 453) (by decide +kernel), List.mem_of_getElem? (i := 454) (by decide +kernel)⟩
theorem lw_p26 : lw_okq (⟨"DefaultFund$Auction", "isLow", "(II)Z"⟩, 2) := ⟨⟨by decide +kernel, by decide +kernel⟩, List.mem_of_getElem? (i := 24) (by decide +kernel), List.mem_of_getElem? (i := 457) (by decide +kernel), List.mem_of_getElem? (i := 458) (by decide +kernel)⟩
theorem lw_p27 : lw_okq (⟨"DefaultFund", "eatLoss", "(LDefaultFund$Member;)I"⟩, 8) := ⟨⟨by decide +kernel, by decide +kernel⟩, List.mem_of_getElem? (i := 14) (by decide +kernel), List.mem_of_getElem? (i := 462) (by decide +kernel), List.mem_of_getElem? (i := 463) (by decide +kernel)⟩
theorem lw_p28 : lw_okq (⟨"DefaultFund", "eatShares", "(IZ)I"⟩, 8) := ⟨⟨by decide +kernel, by decide +kernel⟩, List.mem_of_getElem? (i := 14) (by decide +kernel), List.mem_of_getElem? (i := 466) (by decide +kernel), List.mem_of_getElem? (i := 467) (by decide +kernel)⟩
theorem lw_p29 : lw_okq (⟨"DefaultFund", "eatAssessments", "(I)I"⟩, 8) := ⟨⟨by decide +kernel, by decide +kernel⟩, List.mem_of_getElem? (i := 14) (by decide +kernel), List.mem_of_getElem? (i := 470) (by decide +kernel), List.mem_of_getElem? (i := 471) (by decide +kernel)⟩
theorem lw_p30 : lw_okq (⟨"DefaultFund", "eatGains", "(I)I"⟩, 8) := ⟨⟨by decide +kernel, by decide +kernel⟩, List.mem_of_getElem? (i := 14) (by decide +kernel), List.mem_of_getElem? (i := 474) (by decide +kernel), List.mem_of_getElem? (i := 475) (by decide +kernel)⟩
theorem lw_p31 : lw_okq (⟨"DefaultFund", "endFailure", "(LDefaultFund$Member;)V"⟩, 8) := ⟨⟨by decide +kernel, by decide +kernel⟩, List.mem_of_getElem? (i := 14) (by decide +kernel), List.mem_of_getElem? (i := 478) (by decide +kernel), List.mem_of_getElem? (i := 479) (by decide +kernel)⟩
def lw_privs_2 : List (MethodName × Nat) := [(⟨"DefaultFund", "findsHost", "(I)Z"⟩, 8), (⟨"DefaultFund$Member", "dropClients", "()V"⟩, 13), (⟨"DefaultFund$Auction", "open", "(I)V"⟩, 2), (⟨"DefaultFund$Auction", "hasLot", "(I)Z"⟩, 2), (⟨"DefaultFund$Auction", "bidOf", "(II)I"⟩, 2), (⟨"DefaultFund$Auction", "enter", "(III)V"⟩, 2), (⟨"DefaultFund", "awardLots", "()I"⟩, 8), (⟨"DefaultFund$Auction", "winnerOf", "(I)I"⟩, 2), (⟨"DefaultFund", "rankBidders", "()V"⟩, 8), (⟨"DefaultFund$Auction", "bidPoorly", "(I)Z"⟩, 2), (⟨"DefaultFund$Auction", "isLow", "(II)Z"⟩, 2), (⟨"DefaultFund", "eatLoss", "(LDefaultFund$Member;)I"⟩, 8), (⟨"DefaultFund", "eatShares", "(IZ)I"⟩, 8), (⟨"DefaultFund", "eatAssessments", "(I)I"⟩, 8), (⟨"DefaultFund", "eatGains", "(I)I"⟩, 8), (⟨"DefaultFund", "endFailure", "(LDefaultFund$Member;)V"⟩, 8)]
theorem lw_r2 : ∀ q ∈ lw_privs_2, lw_okq q := List.forall_mem_cons.mpr ⟨lw_p16, List.forall_mem_cons.mpr ⟨lw_p17, List.forall_mem_cons.mpr ⟨lw_p18, List.forall_mem_cons.mpr ⟨lw_p19, List.forall_mem_cons.mpr ⟨lw_p20, List.forall_mem_cons.mpr ⟨lw_p21, List.forall_mem_cons.mpr ⟨lw_p22, List.forall_mem_cons.mpr ⟨lw_p23, List.forall_mem_cons.mpr ⟨lw_p24, List.forall_mem_cons.mpr ⟨lw_p25, List.forall_mem_cons.mpr ⟨lw_p26, List.forall_mem_cons.mpr ⟨lw_p27, List.forall_mem_cons.mpr ⟨lw_p28, List.forall_mem_cons.mpr ⟨lw_p29, List.forall_mem_cons.mpr ⟨lw_p30, List.forall_mem_cons.mpr ⟨lw_p31, fun _ h => absurd h List.not_mem_nil⟩⟩⟩⟩⟩⟩⟩⟩⟩⟩⟩⟩⟩⟩⟩⟩
theorem lw_p32 : lw_okq (⟨"DefaultFund$Member", "loseAll", "()V"⟩, 13) := ⟨⟨by decide +kernel, by decide +kernel⟩, List.mem_of_getElem? (i := 56) (by decide +kernel), List.mem_of_getElem? (i := 482) (by decide +kernel), List.mem_of_getElem? (i := 483) (by decide +kernel)⟩
theorem lw_p33 : lw_okq (⟨"DefaultFundModel", "fails", "(I)I"⟩, 26) := ⟨⟨by decide +kernel, by decide +kernel⟩, List.mem_of_getElem? (i := 543) (by decide +kernel), List.mem_of_getElem? (i := 640) (by decide +kernel), List.mem_of_getElem? (i := 641) (by decide +kernel)⟩
theorem lw_p34 : lw_okq (⟨"DefaultFundModel", "isMember", "(I)Z"⟩, 26) := ⟨⟨by decide +kernel, by decide +kernel⟩, List.mem_of_getElem? (i := 543) (by decide +kernel), List.mem_of_getElem? (i := 648) (by decide +kernel), List.mem_of_getElem? (i := 649) (by decide +kernel)⟩
theorem lw_p35 : lw_okq (⟨"DefaultFundModel", "isActive", "(I)Z"⟩, 26) := ⟨⟨by decide +kernel, by decide +kernel⟩, List.mem_of_getElem? (i := 543) (by decide +kernel), List.mem_of_getElem? (i := 652) (by decide +kernel), List.mem_of_getElem? (i := 653) (by decide +kernel)⟩
theorem lw_p36 : lw_okq (⟨"DefaultFundModel", "roomOf", "(I)I"⟩, 26) := ⟨⟨by decide +kernel, by decide +kernel⟩, List.mem_of_getElem? (i := 543) (by decide +kernel), List.mem_of_getElem? (i := 656) (by decide +kernel), List.mem_of_getElem? (i := 657) (by decide +kernel)⟩
theorem lw_p37 : lw_okq (⟨"DefaultFundModel", "lotsWith", "(I)I"⟩, 26) := ⟨⟨by decide +kernel, by decide +kernel⟩, List.mem_of_getElem? (i := 543) (by decide +kernel), List.mem_of_getElem? (i := 660) (by decide +kernel), List.mem_of_getElem? (i := 661) (by decide +kernel)⟩
theorem lw_p38 : lw_okq (⟨"DefaultFundModel", "part", "(J)I"⟩, 26) := ⟨⟨by decide +kernel, by decide +kernel⟩, List.mem_of_getElem? (i := 543) (by decide +kernel), List.mem_of_getElem? (i := 685) (by decide +kernel), List.mem_of_getElem? (i := 686) (by decide +kernel)⟩
theorem lw_p39 : lw_okq (⟨"DefaultFundModel", "firstOf", "(I)I"⟩, 26) := ⟨⟨by decide +kernel, by decide +kernel⟩, List.mem_of_getElem? (i := 543) (by decide +kernel), List.mem_of_getElem? (i := 693) (by decide +kernel), List.mem_of_getElem? (i := 694) (by decide +kernel)⟩
theorem lw_p40 : lw_okq (⟨"DefaultFundModel", "newOwner", "(I)I"⟩, 26) := ⟨⟨by decide +kernel, by decide +kernel⟩, List.mem_of_getElem? (i := 543) (by decide +kernel), List.mem_of_getElem? (i := 697) (by decide +kernel), List.mem_of_getElem? (i := 698) (by decide +kernel)⟩
theorem lw_p41 : lw_okq (⟨"DefaultFundModel", "winner", "(I)I"⟩, 26) := ⟨⟨by decide +kernel, by decide +kernel⟩, List.mem_of_getElem? (i := 543) (by decide +kernel), List.mem_of_getElem? (i := 709) (by decide +kernel), List.mem_of_getElem? (i := 710) (by decide +kernel)⟩
theorem lw_p42 : lw_okq (⟨"DefaultFundModel", "rank", "(I)V"⟩, 26) := ⟨⟨by decide +kernel, by decide +kernel⟩, List.mem_of_getElem? (i := 543) (by decide +kernel), List.mem_of_getElem? (i := 713) (by decide +kernel), List.mem_of_getElem? (i := 714) (by decide +kernel)⟩
theorem lw_p43 : lw_okq (⟨"DefaultFundModel", "eatShares", "(II)I"⟩, 26) := ⟨⟨by decide +kernel, by decide +kernel⟩, List.mem_of_getElem? (i := 543) (by decide +kernel), List.mem_of_getElem? (i := 717) (by decide +kernel), List.mem_of_getElem? (i := 718) (by decide +kernel)⟩
theorem lw_p44 : lw_okq (⟨"DefaultFundModel", "assess", "(I)I"⟩, 26) := ⟨⟨by decide +kernel, by decide +kernel⟩, List.mem_of_getElem? (i := 543) (by decide +kernel), List.mem_of_getElem? (i := 721) (by decide +kernel), List.mem_of_getElem? (i := 722) (by decide +kernel)⟩
theorem lw_p45 : lw_okq (⟨"DefaultFundModel", "cutGains", "(I)I"⟩, 26) := ⟨⟨by decide +kernel, by decide +kernel⟩, List.mem_of_getElem? (i := 543) (by decide +kernel), List.mem_of_getElem? (i := 725) (by decide +kernel), List.mem_of_getElem? (i := 726) (by decide +kernel)⟩
theorem lw_p46 : lw_okq (⟨"DefaultFundModel", "empty", "(II)V"⟩, 26) := ⟨⟨by decide +kernel, by decide +kernel⟩, List.mem_of_getElem? (i := 543) (by decide +kernel), List.mem_of_getElem? (i := 729) (by decide +kernel), List.mem_of_getElem? (i := 730) (by decide +kernel)⟩
def lw_privs_3 : List (MethodName × Nat) := [(⟨"DefaultFund$Member", "loseAll", "()V"⟩, 13), (⟨"DefaultFundModel", "fails", "(I)I"⟩, 26), (⟨"DefaultFundModel", "isMember", "(I)Z"⟩, 26), (⟨"DefaultFundModel", "isActive", "(I)Z"⟩, 26), (⟨"DefaultFundModel", "roomOf", "(I)I"⟩, 26), (⟨"DefaultFundModel", "lotsWith", "(I)I"⟩, 26), (⟨"DefaultFundModel", "part", "(J)I"⟩, 26), (⟨"DefaultFundModel", "firstOf", "(I)I"⟩, 26), (⟨"DefaultFundModel", "newOwner", "(I)I"⟩, 26), (⟨"DefaultFundModel", "winner", "(I)I"⟩, 26), (⟨"DefaultFundModel", "rank", "(I)V"⟩, 26), (⟨"DefaultFundModel", "eatShares", "(II)I"⟩, 26), (⟨"DefaultFundModel", "assess", "(I)I"⟩, 26), (⟨"DefaultFundModel", "cutGains", "(I)I"⟩, 26), (⟨"DefaultFundModel", "empty", "(II)V"⟩, 26)]
theorem lw_r3 : ∀ q ∈ lw_privs_3, lw_okq q := List.forall_mem_cons.mpr ⟨lw_p32, List.forall_mem_cons.mpr ⟨lw_p33, List.forall_mem_cons.mpr ⟨lw_p34, List.forall_mem_cons.mpr ⟨lw_p35, List.forall_mem_cons.mpr ⟨lw_p36, List.forall_mem_cons.mpr ⟨lw_p37, List.forall_mem_cons.mpr ⟨lw_p38, List.forall_mem_cons.mpr ⟨lw_p39, List.forall_mem_cons.mpr ⟨lw_p40, List.forall_mem_cons.mpr ⟨lw_p41, List.forall_mem_cons.mpr ⟨lw_p42, List.forall_mem_cons.mpr ⟨lw_p43, List.forall_mem_cons.mpr ⟨lw_p44, List.forall_mem_cons.mpr ⟨lw_p45, List.forall_mem_cons.mpr ⟨lw_p46, fun _ h => absurd h List.not_mem_nil⟩⟩⟩⟩⟩⟩⟩⟩⟩⟩⟩⟩⟩⟩⟩
def lw_privs : List (MethodName × Nat) := lw_privs_1 ++ (lw_privs_2 ++ (lw_privs_3))
def lw_tbl : List Cond := k2_sels lw_privs ++ tables_1
theorem lw_privs_ok : ∀ q ∈ lw_privs, lw_okq q := by
  show ∀ q ∈ lw_privs_1 ++ (lw_privs_2 ++ (lw_privs_3)), lw_okq q
  exact List.forall_mem_append.mpr ⟨lw_r1, List.forall_mem_append.mpr ⟨lw_r2, lw_r3⟩⟩
end
section
/-! ===== BEGIN words of one list among another's, by their places ===== -/
theorem goodIn_r {big : List Cond} (ws : List Cond) (ps : List Nat) (hp : ws = ps.filterMap (fun i => big[i]?)) (h : ws.all goodWord = true) : GoodIn big ws := by
  intro w hw
  have h1 := List.all_eq_true.mp h w hw
  rw [hp] at hw
  obtain ⟨i, -, hi⟩ := List.mem_filterMap.mp hw
  have hm : w ∈ big := by first | exact List.mem_of_getElem? hi | exact List.getElem?_mem hi
  exact ⟨hm, good_of_word h1⟩
theorem goodIn_app {big a b : List Cond} (ha : GoodIn big a) (hb : GoodIn big b) : GoodIn big (a ++ b) := fun w h => (List.mem_append.mp h).elim (ha w) (hb w)
theorem goodIn_ca {big a b : List Cond} {c : Cond} (ha : GoodIn big (c :: a)) (hb : GoodIn big b) : GoodIn big (c :: (a ++ b)) := fun w h => (List.mem_cons.mp h).elim (fun e => ha w (List.mem_cons.mpr (Or.inl e))) (fun h => (List.mem_append.mp h).elim (fun h => ha w (List.mem_cons.mpr (Or.inr h))) (hb w))
theorem goodIn_sub {big ws : List Cond} (hm : ∀ w ∈ ws, w ∈ big) (h : ws.all goodWord = true) : GoodIn big ws := fun w hw => ⟨hm w hw, good_of_word (List.all_eq_true.mp h w hw)⟩
/-! ===== END ===== -/

/-! ===== BEGIN exceptions that leave a method, and their catching by the caller (launches without stack traces) ===== -/
section VXA
/-! The laws vx_back, vx_callV, vx_callS, vx_callSW, vx_throw0, vx_throwS follow proofs of the library, with one case more: JvmDerived/Free/Laws.lean (Back.of_free), Shelf42/LK1.lean (callV, callS), Shelf/KitTraced.lean (throwNew0V, throwNewS). -/
/-- where a method has thrown q: the class by its name, the cell, what was written, the world -/
def vx_T (XC : String → State → State → Prop) (st : State) (q : Addr) (t : State) (mc ms : Nat) (free : Addr → Prop) : Prop :=
  ∃ (E : String) (ce : Cell) (L : List Loc), XC E st t ∧ t.heap[q]? = some ce ∧ ce.vm = .none ∧ st.vm.findClass E = some ce.cls ∧ st.WarmedH t.vm ∧ st.sameButNew ({ t with vm := st.vm } : State) L mc ms ∧ ∀ z ∈ L, free z.base
def vx_Q (Qc : Array Value → State → Outcome → State → Prop) (XC : String → State → State → Prop) (mc ms : Nat) (free : Addr → Prop) : Array Value → State → Outcome → State → Prop := fun a st o t =>
  (Qc a st o t ∧ ∃ L, FrameEnd st o t L mc ms ∧ ∀ q ∈ L, free q.base) ∨ ∃ q, o = .threw q ∧ vx_T XC st q t mc ms free
/-- a callee that returns or throws -/
def vx_Met (l : Launch) (y : MethodName) (ws : List Cond) (rm : Room) (Pc : Array Value → State → Prop) (Qc : Array Value → State → Outcome → State → Prop) (XC : String → State → State → Prop) (mc ms : Nat) (free : Addr → Prop) : Prop :=
  MetFree l y (headSpec ws rm) Pc (fun _ _ _ _ _ => True) (vx_Q Qc XC mc ms free)
def vx_Post (XC : String → State → State → Prop) (mc ms : Nat) (free : Addr → Prop) : Pt → Array Value → Addr → Pt → Prop := fun A a q B =>
  ∃ (g : JFrame) (mk : MethodId) (t : State) (L : List Loc) (E : String) (ce : Cell), B.U.heap = t.heap ∧ B.U.vm = t.vm ∧ XC E (A.U.calling g mk a) t ∧ t.heap[q]? = some ce ∧ ce.vm = .none ∧ A.U.vm.findClass E = some ce.cls ∧ B.locs = A.locs ++ L ∧ (∀ z ∈ L, free z.base) ∧ B.cells = A.cells + mc ∧ B.slots = A.slots + ms
def vx_Back (l : Launch) (R : Room) (p : Program) (e : Env) (below : List Frame) (s : State) (sargs : Array Value) (y : MethodName) (len W9 : Nat)
    (Pre : Pt → Array Value → Prop) (Post : Pt → Array Value → Option Value → Pt → Prop) (PostX : Pt → Array Value → Addr → Pt → Prop) : Prop :=
  ∀ (m : MethodId) (meth : Method) (c : Code) (A : Pt) (g : JFrame) (ig : Instr) (mk : MethodId) (a : Array Value),
    Stand p l e R s m sargs below meth c A.U A.locs A.cells A.slots → g.method = m → g.locals.size = c.maxLocals → decode c.code g.pc = .ok (ig, len) →
    2 * g.monitorRoom + (g.stack.map fun v => v.category).sum ≤ W9 → A.U.methodNamed? y = some mk → Pre A a →
    (∃ (v : Option Value) (B : Pt), Stand p l e R s m sargs below meth c B.U B.locs B.cells B.slots ∧ Post A a v B ∧
      Steps p.tables e below (doInvoke e (A.U.setTop g) [] mk a).1 (B.U.setTop { g with pc := g.pc + len, stack := v.toList ++ g.stack })) ∨
    (∃ (q : Addr) (B : Pt), Stand p l e R s m sargs below meth c B.U B.locs B.cells B.slots ∧ PostX A a q B ∧
      Steps p.tables e below (doInvoke e (A.U.setTop g) [] mk a).1 ((B.U.setTop g).pushFrame (.throwing q)))
section Payer
variable {l : Launch} {R : Room} {p : Program} {e : Env} {below : List Frame} {s : State} {sargs : Array Value} {y : MethodName} {len W9 : Nat}
theorem vx_back {ws : List Cond} {rm : Room} {Pc : Array Value → State → Prop} {Qc : Array Value → State → Outcome → State → Prop} {XC : String → State → State → Prop} {mc ms : Nat} {free : Addr → Prop} {bytes : ByteArray} {maxL : Nat} {ret : Option FieldType}
    (hM : vx_Met l y ws rm Pc Qc XC mc ms free) (hblind : FrameBlind Pc) (hrc : rm.cells = mc) (hrs : rm.slots = ms)
    (hframes : rm.frames + 1 ≤ R.frames) (hlocals : W9 + (maxL + 11) + rm.locals ≤ R.locals)
    (hws : ∀ w ∈ ws, ∀ a' U, s.WarmedH U.vm → w.before a' U = true) (hcode : Cond.code y bytes maxL ret ∈ ws) (hinit : ∀ a' U, s.WarmedH U.vm → (Cond.initialized y.cls).before a' U = true) :
    vx_Back l R p e below s sargs y len W9 (PreOf R mc ms Pc) (PostOf Qc mc ms free) (vx_Post XC mc ms free) := by
  intro m meth c A g ig mk a X hg hsize hdg hW hn hp
  have h1 : (headSpec ws rm).pre.before a A.U = true := atoms_intro fun w hw => hws w hw _ _ X.warmed
  have h2 : (Cond.code y bytes maxL ret).before a A.U = true := hws _ hcode _ _ X.warmed
  have h3 : (Cond.initialized y.cls).before a A.U = true := hinit _ _ X.warmed
  have h4 : A.cells + (headSpec ws rm).room.cells ≤ R.cells := by rw [show (headSpec ws rm).room.cells = mc from hrc]; exact hp.1
  have h5 : A.slots + (headSpec ws rm).room.slots ≤ R.slots := by rw [show (headSpec ws rm).room.slots = ms from hrs]; exact hp.2.1
  have hPc : Pc a (A.U.calling g mk a) := hblind _ _ _ _ hp.2.2
  obtain ⟨U, Ls, c0, s0⟩ := A
  dsimp only [Pt.U, Pt.locs, Pt.cells, Pt.slots] at h1 h2 h3 h4 h5 X hn hPc ⊢
  obtain ⟨methY, cY, hmY, hcY, -, hlY, -, -, -, -⟩ := Cond.code_spec hn h2
  obtain ⟨kY, hkY, -⟩ := className_of_methodNamed hn
  have hinitY : kY.init = .initialized := Cond.initialized_spec (findClass_of_methodNamed hn) hkY h3
  have h : At U g.method c below := by rw [hg]; exact X.here
  have hlocals9 : W9 + (maxL + 11) + (headSpec ws rm).room.locals ≤ R.locals := hlocals
  have happ : (headSpec ws rm).appliesLoose y e.platform (U.calling g mk a) = true :=
    Spec.appliesLoose_calling (g := g) h hdg hn hkY hinitY
      (X.room_calling (g := g) (R' := (headSpec ws rm).room) hsize hmY hcY hframes (by rw [hlY]; omega) h4 h5) h1
  obtain ⟨mid, hmid⟩ := h.above
  have hfr : (U.setTop g).frames = (.java g :: mid) ++ below := by rw [State.frames_setTop' g h.top, hmid]; rfl
  obtain ⟨o, s₂, hsteps, -, hend, hq⟩ := Steps.callFree hM p X.admits X.cas X.clock (acts := []) hfr happ hPc trivial
  have hq' : vx_Q Qc XC mc ms free a (U.calling g mk a) o s₂ := hq
  rw [State.frames_setTop' g h.top] at hend
  obtain ⟨g₀, hg0⟩ := Option.isSome_iff_exists.mp h.top
  obtain ⟨r, hr⟩ := State.topJava?_eq_some.mp hg0
  have hr' : (({ U with heap := s₂.heap, slotsUsed := s₂.slotsUsed } : State).setVm s₂.vm).frames = .java g₀ :: r := hr
  rcases hq' with ⟨hqc, L, hfe, hL⟩ | ⟨q, rfl, E, ce, L, hx, hce, hcv, hcl, hW₂, hsm, hL⟩
  · obtain ⟨⟨v, rfl⟩, hW₂, e2, q2, q3, q4, q5, q6⟩ := id hfe
    have e3 : s₂ = ({ (U.calling g mk a).setFrames s₂.frames with heap := s₂.heap, slotsUsed := s₂.slotsUsed } : State).setVm s₂.vm := by
      have : s₂ = ({ s₂ with vm := (U.calling g mk a).vm } : State).setVm s₂.vm := rfl
      rw [e2] at this
      exact this
    obtain ⟨c₂, i₂, len₂, hc₂, hd₂, hf₂⟩ := hend
    have hW' : U.WarmedH s₂.vm := hW₂
    have hcc : c₂ = c := by
      have h1 : s₂.code? g.method = U.code? g.method := by
        rw [State.code?_eq, State.code?_eq, hW'.alike.method?]
      exact Option.some.inj (hc₂.symm.trans (h1.trans h.code))
    subst hcc
    have hlen : len₂ = len := by rw [hdg] at hd₂; cases hd₂; rfl
    subst hlen
    have hs₂ : s₂ = (({ U with heap := s₂.heap, slotsUsed := s₂.slotsUsed } : State).setVm s₂.vm).setTop { g with pc := g.pc + len₂, stack := v.toList ++ g.stack } := by
      refine e3.trans ?_
      rw [hf₂, State.calling_eq h.top, State.setFrames_setFrames, State.setTop_of_frames _ hr', hr]
      rfl
    have hsame : U.sameButNew ({ U with heap := s₂.heap, slotsUsed := s₂.slotsUsed } : State) L mc ms := by
      refine ⟨?_, q2, q3, q4, q5, q6⟩
      obtain ⟨t, ht, -⟩ := State.frames_cons hr
      show ({ U with heap := s₂.heap, slotsUsed := s₂.slotsUsed } : State) = { U.setFrames U.frames with heap := s₂.heap, slotsUsed := s₂.slotsUsed }
      rw [State.setFrames_self ht]
    subst hg
    refine Or.inl ⟨v, ⟨(({ U with heap := s₂.heap, slotsUsed := s₂.slotsUsed } : State).setVm s₂.vm), Ls ++ L, c0 + mc, s0 + ms⟩,
      ⟨X.admits, X.cas, X.clock, X.frames, X.room, X.hears, X.method, X.code, (X.here.setHeapUsed s₂.heap s₂.slotsUsed).setVm hW'.alike, X.tail, State.WarmedH.trans X.warmed hW', X.limits, X.bytes, X.same.trans (hsame.setVm s.vm)⟩,
      ⟨g, mk, s₂, L, rfl, rfl, hqc, rfl, hL, rfl, rfl⟩, ?_⟩
    show Steps p.tables e below _ ((({ U with heap := s₂.heap, slotsUsed := s₂.slotsUsed } : State).setVm s₂.vm).setTop { g with pc := g.pc + len₂, stack := v.toList ++ g.stack })
    rw [← hs₂]
    exact hsteps
  · obtain ⟨e2, q2, q3, q4, q5, q6⟩ := id hsm
    have e3 : s₂ = ({ (U.calling g mk a).setFrames s₂.frames with heap := s₂.heap, slotsUsed := s₂.slotsUsed } : State).setVm s₂.vm := by
      have : s₂ = ({ s₂ with vm := (U.calling g mk a).vm } : State).setVm s₂.vm := rfl
      rw [e2] at this
      exact this
    have hf₂ : s₂.frames = .throwing q :: .java g :: U.frames.tail := hend
    have hW' : U.WarmedH s₂.vm := hW₂
    have hs₂ : s₂ = ((({ U with heap := s₂.heap, slotsUsed := s₂.slotsUsed } : State).setVm s₂.vm).setTop g).pushFrame (.throwing q) := by
      refine e3.trans ?_
      rw [hf₂, State.calling_eq h.top, State.setFrames_setFrames, State.pushFrame, State.frames_setTop _ hr', State.setTop_of_frames _ hr', State.setFrames_setFrames, hr]
      rfl
    have hsame : U.sameButNew ({ U with heap := s₂.heap, slotsUsed := s₂.slotsUsed } : State) L mc ms := by
      refine ⟨?_, q2, q3, q4, q5, q6⟩
      obtain ⟨t, ht, -⟩ := State.frames_cons hr
      show ({ U with heap := s₂.heap, slotsUsed := s₂.slotsUsed } : State) = { U.setFrames U.frames with heap := s₂.heap, slotsUsed := s₂.slotsUsed }
      rw [State.setFrames_self ht]
    subst hg
    refine Or.inr ⟨q, ⟨(({ U with heap := s₂.heap, slotsUsed := s₂.slotsUsed } : State).setVm s₂.vm), Ls ++ L, c0 + mc, s0 + ms⟩,
      ⟨X.admits, X.cas, X.clock, X.frames, X.room, X.hears, X.method, X.code, (X.here.setHeapUsed s₂.heap s₂.slotsUsed).setVm hW'.alike, X.tail, State.WarmedH.trans X.warmed hW', X.limits, X.bytes, X.same.trans (hsame.setVm s.vm)⟩,
      ⟨g, mk, s₂, L, E, ce, rfl, rfl, hx, hce, hcv, hcl, rfl, hL, rfl, rfl⟩, ?_⟩
    show Steps p.tables e below _ (((({ U with heap := s₂.heap, slotsUsed := s₂.slotsUsed } : State).setVm s₂.vm).setTop g).pushFrame (.throwing q))
    rw [← hs₂]
    exact hsteps
end Payer
section Calls
variable {p : Program} {l : Launch} {e : Env} {R : Room} {s : State} {m : MethodId} {args : Array Value} {below : List Frame} {meth : Method} {c : Code} {T : State} {locs : List Loc} {cells slots : Nat}
theorem vx_callV (X : Stand p l e R s m args below meth c T locs cells slots) (hexec : p.tables.exec = Jvm.exec) {own C : String} {index : Nat} {y : MethodName} {bytes : ByteArray} {maxL : Nat} {ret : Option FieldType}
    (hown : s.vm.findClass own = some m.cls) (hlink : (Cond.methodLink own index y).before args s = true) (hinst : (Cond.instanceMethod y).before args s = true) (hsel : (Cond.selects C y y).before args s = true)
    (hcode : (Cond.code y bytes maxL ret).before args s = true) (hy : y.cls ≠ "java/lang/invoke/MethodHandle" ∧ y.cls ≠ "java/lang/invoke/VarHandle")
    {W9 : Nat} {Pre : Pt → Array Value → Prop} {Post : Pt → Array Value → Option Value → Pt → Prop} {PostX : Pt → Array Value → Addr → Pt → Prop} (hK : vx_Back l R p e below s args y 3 W9 Pre Post PostX)
    {b : Addr} {cellB : Cell} (hcell : T.heap[b]? = some cellB) (hobj : cellB.vm.isStatics = false) (hcls : s.vm.findClass C = some cellB.cls)
    {g : JFrame} (hg : g.method = m) (hsize : g.locals.size = c.maxLocals) {argsL rest : List Value} (hlen : ∀ sig, parseMethodDescriptor y.desc = some sig → argsL.length = sig.parameters.length)
    (hstack : g.stack = argsL.reverse ++ .ref b :: rest) (hW : 2 * g.monitorRoom + (rest.map fun v => v.category).sum ≤ W9) (hdg : decode c.code g.pc = .ok (.invokevirtual index, 3))
    (hpre : ∀ vm₁, s.WarmedH vm₁ → Pre ⟨T.setVm vm₁, locs, cells, slots⟩ (Value.ref b :: argsL).toArray) :
    (∃ (v : Option Value) (vm₁ : Vm) (B : Pt), s.WarmedH vm₁ ∧ Stand p l e R s m args below meth c B.U B.locs B.cells B.slots ∧ Post ⟨T.setVm vm₁, locs, cells, slots⟩ (Value.ref b :: argsL).toArray v B ∧
      ∀ target, Steps p.tables e below (B.U.setTop { g with pc := g.pc + 3, stack := v.toList ++ rest }) target → Steps p.tables e below (T.setTop g) target) ∨
    (∃ (q : Addr) (vm₁ : Vm) (B : Pt), s.WarmedH vm₁ ∧ Stand p l e R s m args below meth c B.U B.locs B.cells B.slots ∧ PostX ⟨T.setVm vm₁, locs, cells, slots⟩ (Value.ref b :: argsL).toArray q B ∧
      Steps p.tables e below (T.setTop g) ((B.U.setTop { g with stack := rest }).pushFrame (.throwing q))) := by
  obtain ⟨mk, methM, hnamed, hmethM, hstM, habM⟩ := Cond.instanceMethod_spec hinst
  obtain ⟨methM', cM, hmethM', -, -, -, -, -, -, hsigM⟩ := Cond.code_spec hnamed hcode
  cases hmethM.symm.trans hmethM'
  obtain ⟨c2, r2, m2, q1, q2, q3, q4, kP, hkP, hkPi⟩ := Cond.selects_spec hsel
  cases hcls.symm.trans q1
  cases (State.methodFound?_of_named hnamed hy).symm.trans q2
  cases hnamed.symm.trans q3
  have hselP : selectMethod e.platform s.vm cellB.cls mk = .method mk := by rw [Launch.admits_selectMethod X.admits]; exact q4
  obtain ⟨vm₁, X₁, hstep₁⟩ := X.invokevirtual hexec hown hlink hnamed hmethM hstM hkP hkPi hy (a := b) (cell := cellB) hcell
    (fun z h => by rw [h] at hobj; cases hobj) hselP hmethM habM hkP hkPi (g := g) hg (argsL := argsL) (rest := rest) (hlen _ hsigM) hstack hdg
  rcases hK m meth c ⟨T.setVm vm₁, locs, cells, slots⟩ { g with stack := rest } (.invokevirtual index) mk (Value.ref b :: argsL).toArray X₁ hg hsize hdg hW (X₁.named hnamed) (hpre vm₁ X₁.warmed) with ⟨v, B, X', hpost, hsteps⟩ | ⟨q, B, X', hpost, hsteps⟩
  · exact Or.inl ⟨v, vm₁, B, X₁.warmed, X', hpost, fun target h => hstep₁ _ fun acts => by rw [doInvoke_state]; exact hsteps.trans h⟩
  · exact Or.inr ⟨q, vm₁, B, X₁.warmed, X', hpost, hstep₁ _ fun acts => by rw [doInvoke_state]; exact hsteps⟩
theorem vx_callS (X : Stand p l e R s m args below meth c T locs cells slots) (hexec : p.tables.exec = Jvm.exec) {own : String} {index : Nat} {y : MethodName} {bytes : ByteArray} {maxL : Nat} {ret : Option FieldType}
    (hown : s.vm.findClass own = some m.cls) (hlink : (Cond.methodLink own index y).before args s = true) (hstat : (Cond.static y).before args s = true) (hinit : (Cond.initialized y.cls).before args s = true)
    (hcode : (Cond.code y bytes maxL ret).before args s = true) (hy : y.cls ≠ "java/lang/invoke/MethodHandle" ∧ y.cls ≠ "java/lang/invoke/VarHandle")
    {W9 : Nat} {Pre : Pt → Array Value → Prop} {Post : Pt → Array Value → Option Value → Pt → Prop} {PostX : Pt → Array Value → Addr → Pt → Prop} (hK : vx_Back l R p e below s args y 3 W9 Pre Post PostX)
    {g : JFrame} (hg : g.method = m) (hsize : g.locals.size = c.maxLocals) {argsL rest : List Value} (hlen : ∀ sig, parseMethodDescriptor y.desc = some sig → argsL.length = sig.parameters.length)
    (hstack : g.stack = argsL.reverse ++ rest) (hW : 2 * g.monitorRoom + (rest.map fun v => v.category).sum ≤ W9) (hdg : decode c.code g.pc = .ok (.invokestatic index, 3))
    (hpre : ∀ vm₁, s.WarmedH vm₁ → Pre ⟨T.setVm vm₁, locs, cells, slots⟩ argsL.toArray) :
    (∃ (v : Option Value) (vm₁ : Vm) (B : Pt), s.WarmedH vm₁ ∧ Stand p l e R s m args below meth c B.U B.locs B.cells B.slots ∧ Post ⟨T.setVm vm₁, locs, cells, slots⟩ argsL.toArray v B ∧
      ∀ target, Steps p.tables e below (B.U.setTop { g with pc := g.pc + 3, stack := v.toList ++ rest }) target → Steps p.tables e below (T.setTop g) target) ∨
    (∃ (q : Addr) (vm₁ : Vm) (B : Pt), s.WarmedH vm₁ ∧ Stand p l e R s m args below meth c B.U B.locs B.cells B.slots ∧ PostX ⟨T.setVm vm₁, locs, cells, slots⟩ argsL.toArray q B ∧
      Steps p.tables e below (T.setTop g) ((B.U.setTop { g with stack := rest }).pushFrame (.throwing q))) := by
  obtain ⟨mk, hnamed⟩ := Cond.code_named hcode
  obtain ⟨methM, cM, hmethM, -, -, -, -, -, -, hsigM⟩ := Cond.code_spec hnamed hcode
  have hstatic : methM.isStatic = true := Cond.static_spec hnamed hmethM hstat
  obtain ⟨kP, hkP, -⟩ := className_of_methodNamed hnamed
  have hinitP : kP.init = .initialized := Cond.initialized_spec (findClass_of_methodNamed hnamed) hkP hinit
  obtain ⟨vm₁, X₁, hstep₁⟩ := X.invokestatic hexec hown hlink hnamed hmethM hstatic hkP hinitP hy (g := g) hg (argsL := argsL) (rest := rest) (hlen _ hsigM) hstack hdg
  rcases hK m meth c ⟨T.setVm vm₁, locs, cells, slots⟩ { g with stack := rest } (.invokestatic index) mk argsL.toArray X₁ hg hsize hdg hW (X₁.named hnamed) (hpre vm₁ X₁.warmed) with ⟨v, B, X', hpost, hsteps⟩ | ⟨q, B, X', hpost, hsteps⟩
  · exact Or.inl ⟨v, vm₁, B, X₁.warmed, X', hpost, fun target h => hstep₁ _ fun acts => by rw [doInvoke_state]; exact hsteps.trans h⟩
  · exact Or.inr ⟨q, vm₁, B, X₁.warmed, X', hpost, hstep₁ _ fun acts => by rw [doInvoke_state]; exact hsteps⟩
end Calls
theorem vx_cls {s : State} {T : State} {vm₁ : Vm} {E : String} {k : ClassId} (hW : s.WarmedH vm₁) (h : (T.setVm vm₁).vm.findClass E = some k) : s.vm.findClass E = some k := by
  have h1 : vm₁.findClass E = some k := h
  rw [hW.alike.findClass] at h1
  exact h1
/-- the method's frame g, with q thrown over it -/
def vx_W (p : Program) (l : Launch) (e : Env) (R : Room) (s : State) (m : MethodId) (args : Array Value) (below : List Frame) (meth : Method) (c : Code) (H : Heap) (locs : List Loc) (cells slots : Nat) (Q : State → Prop) (g : JFrame) (q : Addr) : Prop :=
  ∀ T : State, T.heap = H → Stand p l e R s m args below meth c T locs cells slots → ∃ t, Steps p.tables e below ((T.setTop g).pushFrame (.throwing q)) t ∧ Q t
def vx_Run (p : Program) (l : Launch) (e : Env) (R : Room) (s : State) (m : MethodId) (args : Array Value) (below : List Frame) (meth : Method) (c : Code) (H : Heap) (locs : List Loc) (cells slots mc ms : Nat) (g : JFrame) (rest : List Value) (Qa : State → Outcome → State → Prop) (XC : String → State → State → Prop) (free : Addr → Prop) : Prop :=
  ∀ T : State, T.heap = H → Stand p l e R s m args below meth c T locs cells slots →
    (∃ (v : Option Value) (st₀ t T' : State) (L : List Loc), st₀.heap = H ∧ Stand p l e R s m args below meth c T' (locs ++ L) (cells + mc) (slots + ms) ∧ (∀ q ∈ L, free q.base) ∧ T'.heap = t.heap ∧ T'.vm = t.vm ∧ Qa st₀ (.returned v) t ∧
      Goes p e below T g T' { g with pc := g.pc + 3, stack := v.toList ++ rest }) ∨
    (∃ (q : Addr) (st₀ t T' : State) (L : List Loc) (E : String) (ce : Cell), st₀.heap = H ∧ Stand p l e R s m args below meth c T' (locs ++ L) (cells + mc) (slots + ms) ∧ (∀ z ∈ L, free z.base) ∧ T'.heap = t.heap ∧ T'.vm = t.vm ∧ XC E st₀ t ∧ t.heap[q]? = some ce ∧ ce.vm = .none ∧ s.vm.findClass E = some ce.cls ∧
      Steps p.tables e below (T.setTop g) ((T'.setTop { g with stack := rest }).pushFrame (.throwing q)))
def vx_X {S : Type} (px : S → Prop) (B : String → S → State → Prop) (A : Nat → Prop) : String → State → State → Prop := fun E st t => ∃ u : S, px u ∧ B E u t ∧ va_F A st t
section Runs
variable {p : Program} {l : Launch} {e : Env} {R : Room} {s : State} {m : MethodId} {args : Array Value} {below : List Frame} {meth : Method} {c : Code} {H : Heap} {locs : List Loc} {cells slots : Nat}
variable {y : MethodName} {bytes cc : ByteArray} {maxL nL mc ms n index : Nat} {ret : Option FieldType} {ws : List Cond} {rm : Room} {Pc : Array Value → State → Prop} {Qc : Array Value → State → Outcome → State → Prop} {XC : String → State → State → Prop} {free : Addr → Prop} {Ts : List Cond} {own C : String} {b : Addr} {As rest : List Value} {g : JFrame}
theorem vx_callBack (cb : CallB R s args own index y bytes maxL ret ws rm mc ms n) (hM : vx_Met l y ws rm Pc Qc XC mc ms free) (hbl : FrameBlind Pc) : vx_Back l R p e below s args y 3 8 (PreOf R mc ms Pc) (PostOf Qc mc ms free) (vx_Post XC mc ms free) := by
  obtain ⟨hrc, hrs, hfr, hlo, hws, hcw, -, hini, -⟩ := cb
  exact vx_back (bytes := bytes) (maxL := maxL) (ret := ret) hM hbl hrc hrs hfr hlo hws hcw (fun a' U hW => word_at hW (Or.inl (by first | rfl | simp [Cond.onTables, Cond.keeps, Cond.steady])) hini)
theorem vx_runV (S : CallFix p m c cc nL s args Ts own) (hM : vx_Met l y ws rm Pc Qc XC mc ms free) (cw : CallW R s args own C index y bytes maxL ret ws rm mc ms n) (hp : PreV s H C b Pc As)
    (hg : g.method = m) (hn : As.length = n) (hsize : g.locals.size = nL) (hstack : g.stack = As.reverse ++ .ref b :: rest) (hW : 2 * g.monitorRoom + (rest.map fun v => v.category).sum ≤ 8) (hdg : decode cc g.pc = .ok (.invokevirtual index, 3)) (hf : cells + mc ≤ R.cells ∧ slots + ms ≤ R.slots) :
    vx_Run p l e R s m args below meth c H locs cells slots mc ms g rest (Qc (Value.ref b :: As).toArray) XC free := by
  have hK : vx_Back l R p e below s args y 3 8 (PreOf R mc ms Pc) (PostOf Qc mc ms free) (vx_Post XC mc ms free) := vx_callBack cw.1 hM hp.1
  obtain ⟨⟨-, -, -, -, -, -, hcode, -, hy, hlen, hl⟩, hin, hse⟩ := cw
  obtain ⟨hx, hb, hml, ho, -⟩ := S
  obtain ⟨-, ⟨cellB, hcB, hoB, hclB⟩, hPc⟩ := hp
  intro T hT X
  rcases vx_callV X hx (C := C) (bytes := bytes) (maxL := maxL) (ret := ret) ho hl hin hse hcode hy hK (by rw [hT]; exact hcB) hoB hclB hg (hsize.trans hml.symm) (argsL := As) (rest := rest) (fun sig h => hn.trans (hlen sig h)) hstack hW (by rw [hb]; exact hdg)
    (fun vm₁ hW₁ => ⟨hf.1, hf.2, hPc (T.setVm vm₁) hT hW₁⟩) with ⟨v, vm₁, ⟨U', l2, c2, s2⟩, hW₁, X', ⟨g', mk, t, L, e1, e2, hq, h1, hL, h2, h3⟩, st⟩ | ⟨q, vm₁, ⟨U', l2, c2, s2⟩, hW₁, X', ⟨g', mk, t, L, E, ce, e1, e2, hq, hce, hcv, hcl, h1, hL, h2, h3⟩, st⟩
  · dsimp only [Pt.U, Pt.locs, Pt.cells, Pt.slots] at X' e1 e2 h1 h2 h3 st
    subst h1; subst h2; subst h3
    exact Or.inl ⟨v, (T.setVm vm₁).calling g' mk (Value.ref b :: As).toArray, t, U', L, hT, X', hL, e1, e2, hq, st⟩
  · dsimp only [Pt.U, Pt.locs, Pt.cells, Pt.slots] at X' e1 e2 h1 h2 h3 st hcl
    subst h1; subst h2; subst h3
    exact Or.inr ⟨q, (T.setVm vm₁).calling g' mk (Value.ref b :: As).toArray, t, U', L, E, ce, hT, X', hL, e1, e2, hq, hce, hcv, vx_cls hW₁ hcl, st⟩
theorem vx_runS (S : CallFix p m c cc nL s args Ts own) (hM : vx_Met l y ws rm Pc Qc XC mc ms free) (cw : CallB R s args own index y bytes maxL ret ws rm mc ms n ∧ (Cond.static y).before args s = true) (hp : PreS s H Pc As)
    (hg : g.method = m) (hn : As.length = n) (hsize : g.locals.size = nL) (hstack : g.stack = As.reverse ++ rest) (hW : 2 * g.monitorRoom + (rest.map fun v => v.category).sum ≤ 8) (hdg : decode cc g.pc = .ok (.invokestatic index, 3)) (hf : cells + mc ≤ R.cells ∧ slots + ms ≤ R.slots) :
    vx_Run p l e R s m args below meth c H locs cells slots mc ms g rest (Qc As.toArray) XC free := by
  have hK : vx_Back l R p e below s args y 3 8 (PreOf R mc ms Pc) (PostOf Qc mc ms free) (vx_Post XC mc ms free) := vx_callBack cw.1 hM hp.1
  obtain ⟨⟨-, -, -, -, -, -, hcode, hini, hy, hlen, hl⟩, hstt⟩ := cw
  obtain ⟨hx, hb, hml, ho, -⟩ := S
  intro T hT X
  rcases vx_callS X hx (bytes := bytes) (maxL := maxL) (ret := ret) ho hl hstt hini hcode hy hK hg (hsize.trans hml.symm) (argsL := As) (rest := rest) (fun sig h => hn.trans (hlen sig h)) hstack hW (by rw [hb]; exact hdg)
    (fun vm₁ hW₁ => ⟨hf.1, hf.2, hp.2 (T.setVm vm₁) hT hW₁⟩) with ⟨v, vm₁, ⟨U', l2, c2, s2⟩, hW₁, X', ⟨g', mk, t, L, e1, e2, hq, h1, hL, h2, h3⟩, st⟩ | ⟨q, vm₁, ⟨U', l2, c2, s2⟩, hW₁, X', ⟨g', mk, t, L, E, ce, e1, e2, hq, hce, hcv, hcl, h1, hL, h2, h3⟩, st⟩
  · dsimp only [Pt.U, Pt.locs, Pt.cells, Pt.slots] at X' e1 e2 h1 h2 h3 st
    subst h1; subst h2; subst h3
    exact Or.inl ⟨v, (T.setVm vm₁).calling g' mk As.toArray, t, U', L, hT, X', hL, e1, e2, hq, st⟩
  · dsimp only [Pt.U, Pt.locs, Pt.cells, Pt.slots] at X' e1 e2 h1 h2 h3 st hcl
    subst h1; subst h2; subst h3
    exact Or.inr ⟨q, (T.setVm vm₁).calling g' mk As.toArray, t, U', L, E, ce, hT, X', hL, e1, e2, hq, hce, hcv, vx_cls hW₁ hcl, st⟩
end Runs
section Rows
variable {p : Program} {l : Launch} {e : Env} {R : Room} {s : State} {m : MethodId} {args : Array Value} {below : List Frame} {meth : Method} {c : Code} {H : Heap} {locs : List Loc} {cells slots : Nat} {Q : State → Prop}
variable {mc ms : Nat} {free : Addr → Prop} {A0 A1 : Nat → Prop} {H0 : Heap} {a : Array Value} {pc : Nat} {ls : Array Slot} {st0 rest : List Value}
theorem vx_keep {st₀ t T' : State} {L : List Loc} (h0 : st₀.heap = H) (e1 : T'.heap = t.heap) (hS : va_S A0 H0 H locs) (hA : ∀ q, q < H.size → A1 q → A0 q) (hf : ∀ q, free q → A0 q) (hL : ∀ q ∈ L, free q.base) (hF : va_F A1 st₀ t) :
    H.size ≤ T'.heap.size ∧ (∀ q : Nat, q < H.size → ¬ A1 q → T'.heap[q]? = H[q]?) ∧ va_S A0 H0 T'.heap (locs ++ L) := by
  obtain ⟨hz, hk⟩ := hF
  rw [h0] at hz hk
  exact ⟨by rw [e1]; exact hz, fun q h1 h2 => by rw [e1]; exact hk q h1 h2,
    ⟨Nat.le_trans hS.1 (by rw [e1]; exact hz), fun q h1 h2 => by rw [e1, hk q (Nat.lt_of_lt_of_le h1 hS.1) (fun z => h2 (hA q (Nat.lt_of_lt_of_le h1 hS.1) z))]; exact hS.2.1 q h1 h2, fun q hq => by
      rcases List.mem_append.mp hq with h | h
      · exact hS.2.2 q h
      · exact hf _ (hL q h)⟩⟩
theorem vx_calli {S SX : Type} {post : Int32 → S → Prop} {px : SX → Prop} {B : S → State → Prop} {BX : String → SX → State → Prop} {AX : Nat → Prop} (hr : vx_Run p l e R s m args below meth c H locs cells slots mc ms (F0 m pc ls st0) rest (va_Qi post B A1 a) (vx_X px BX AX) free) (hS : va_S A0 H0 H locs) (hA : ∀ q, q < H.size → A1 q → A0 q) (hf : ∀ q, free q → A0 q) (hAX : ∀ q, q < H.size → AX q → A0 q)
    (kx : ∀ (E : String) (ce : Cell) (q9 : Addr) (u : SX) (t : State) (H1 : Heap) (locs1 : List Loc), t.heap = H1 → s.vm.Alike t.vm → px u → BX E u t → H.size ≤ H1.size → (∀ q : Nat, q < H.size → ¬ AX q → H1[q]? = H[q]?) → va_S A0 H0 H1 locs1 → H1[q9]? = some ce → ce.vm = .none → s.vm.findClass E = some ce.cls → vx_W p l e R s m args below meth c H1 locs1 (cells + mc) (slots + ms) Q (F0 m pc ls rest) q9)
    (kk : ∀ (r : Int32) (u : S) (t : State) (H1 : Heap) (locs1 : List Loc), t.heap = H1 → s.vm.Alike t.vm → post r u → B u t → H.size ≤ H1.size → (∀ q : Nat, q < H.size → ¬ A1 q → H1[q]? = H[q]?) → va_S A0 H0 H1 locs1 → W p l e R s m args below meth c H1 locs1 (cells + mc) (slots + ms) Q (F0 m (pc + 3) ls (.int r :: rest))) : W p l e R s m args below meth c H locs cells slots Q (F0 m pc ls st0) := by
  intro T hT X
  rcases hr T hT X with ⟨v, st₀, t, T', L, h0, X', hL, e1, e2, ⟨⟨r, u, hv, hp, hb⟩, hF⟩, st⟩ | ⟨q, st₀, t, T', L, E, ce, h0, X', hL, e1, e2, ⟨u, hp, hb, hF⟩, hce, hcv, hcl, st⟩
  · cases hv
    obtain ⟨k1, k2, k3⟩ := vx_keep h0 e1 hS hA hf hL hF
    obtain ⟨t2, a1, b1⟩ := kk r u t T'.heap (locs ++ L) e1.symm (by rw [← e2]; exact X'.warmed.alike) hp hb k1 k2 k3 T' rfl X'
    exact ⟨t2, st t2 a1, b1⟩
  · obtain ⟨k1, k2, k3⟩ := vx_keep h0 e1 hS hAX hf hL hF
    obtain ⟨t2, a1, b1⟩ := kx E ce q u t T'.heap (locs ++ L) e1.symm (by rw [← e2]; exact X'.warmed.alike) hp hb k1 k2 k3 (by rw [e1]; exact hce) hcv hcl T' rfl X'
    exact ⟨t2, st.trans a1, b1⟩
theorem vx_calll {S SX : Type} {post : Int64 → S → Prop} {px : SX → Prop} {B : S → State → Prop} {BX : String → SX → State → Prop} {AX : Nat → Prop} (hr : vx_Run p l e R s m args below meth c H locs cells slots mc ms (F0 m pc ls st0) rest (va_Ql post B A1 a) (vx_X px BX AX) free) (hS : va_S A0 H0 H locs) (hA : ∀ q, q < H.size → A1 q → A0 q) (hf : ∀ q, free q → A0 q) (hAX : ∀ q, q < H.size → AX q → A0 q)
    (kx : ∀ (E : String) (ce : Cell) (q9 : Addr) (u : SX) (t : State) (H1 : Heap) (locs1 : List Loc), t.heap = H1 → s.vm.Alike t.vm → px u → BX E u t → H.size ≤ H1.size → (∀ q : Nat, q < H.size → ¬ AX q → H1[q]? = H[q]?) → va_S A0 H0 H1 locs1 → H1[q9]? = some ce → ce.vm = .none → s.vm.findClass E = some ce.cls → vx_W p l e R s m args below meth c H1 locs1 (cells + mc) (slots + ms) Q (F0 m pc ls rest) q9)
    (kk : ∀ (r : Int64) (u : S) (t : State) (H1 : Heap) (locs1 : List Loc), t.heap = H1 → s.vm.Alike t.vm → post r u → B u t → H.size ≤ H1.size → (∀ q : Nat, q < H.size → ¬ A1 q → H1[q]? = H[q]?) → va_S A0 H0 H1 locs1 → W p l e R s m args below meth c H1 locs1 (cells + mc) (slots + ms) Q (F0 m (pc + 3) ls (.long r :: rest))) : W p l e R s m args below meth c H locs cells slots Q (F0 m pc ls st0) := by
  intro T hT X
  rcases hr T hT X with ⟨v, st₀, t, T', L, h0, X', hL, e1, e2, ⟨⟨r, u, hv, hp, hb⟩, hF⟩, st⟩ | ⟨q, st₀, t, T', L, E, ce, h0, X', hL, e1, e2, ⟨u, hp, hb, hF⟩, hce, hcv, hcl, st⟩
  · cases hv
    obtain ⟨k1, k2, k3⟩ := vx_keep h0 e1 hS hA hf hL hF
    obtain ⟨t2, a1, b1⟩ := kk r u t T'.heap (locs ++ L) e1.symm (by rw [← e2]; exact X'.warmed.alike) hp hb k1 k2 k3 T' rfl X'
    exact ⟨t2, st t2 a1, b1⟩
  · obtain ⟨k1, k2, k3⟩ := vx_keep h0 e1 hS hAX hf hL hF
    obtain ⟨t2, a1, b1⟩ := kx E ce q u t T'.heap (locs ++ L) e1.symm (by rw [← e2]; exact X'.warmed.alike) hp hb k1 k2 k3 (by rw [e1]; exact hce) hcv hcl T' rfl X'
    exact ⟨t2, st.trans a1, b1⟩
theorem vx_callf {S SX : Type} {post : UInt32 → S → Prop} {px : SX → Prop} {B : S → State → Prop} {BX : String → SX → State → Prop} {AX : Nat → Prop} (hr : vx_Run p l e R s m args below meth c H locs cells slots mc ms (F0 m pc ls st0) rest (va_Qf post B A1 a) (vx_X px BX AX) free) (hS : va_S A0 H0 H locs) (hA : ∀ q, q < H.size → A1 q → A0 q) (hf : ∀ q, free q → A0 q) (hAX : ∀ q, q < H.size → AX q → A0 q)
    (kx : ∀ (E : String) (ce : Cell) (q9 : Addr) (u : SX) (t : State) (H1 : Heap) (locs1 : List Loc), t.heap = H1 → s.vm.Alike t.vm → px u → BX E u t → H.size ≤ H1.size → (∀ q : Nat, q < H.size → ¬ AX q → H1[q]? = H[q]?) → va_S A0 H0 H1 locs1 → H1[q9]? = some ce → ce.vm = .none → s.vm.findClass E = some ce.cls → vx_W p l e R s m args below meth c H1 locs1 (cells + mc) (slots + ms) Q (F0 m pc ls rest) q9)
    (kk : ∀ (r : UInt32) (u : S) (t : State) (H1 : Heap) (locs1 : List Loc), t.heap = H1 → s.vm.Alike t.vm → post r u → B u t → H.size ≤ H1.size → (∀ q : Nat, q < H.size → ¬ A1 q → H1[q]? = H[q]?) → va_S A0 H0 H1 locs1 → W p l e R s m args below meth c H1 locs1 (cells + mc) (slots + ms) Q (F0 m (pc + 3) ls (.float r :: rest))) : W p l e R s m args below meth c H locs cells slots Q (F0 m pc ls st0) := by
  intro T hT X
  rcases hr T hT X with ⟨v, st₀, t, T', L, h0, X', hL, e1, e2, ⟨⟨r, u, hv, hp, hb⟩, hF⟩, st⟩ | ⟨q, st₀, t, T', L, E, ce, h0, X', hL, e1, e2, ⟨u, hp, hb, hF⟩, hce, hcv, hcl, st⟩
  · cases hv
    obtain ⟨k1, k2, k3⟩ := vx_keep h0 e1 hS hA hf hL hF
    obtain ⟨t2, a1, b1⟩ := kk r u t T'.heap (locs ++ L) e1.symm (by rw [← e2]; exact X'.warmed.alike) hp hb k1 k2 k3 T' rfl X'
    exact ⟨t2, st t2 a1, b1⟩
  · obtain ⟨k1, k2, k3⟩ := vx_keep h0 e1 hS hAX hf hL hF
    obtain ⟨t2, a1, b1⟩ := kx E ce q u t T'.heap (locs ++ L) e1.symm (by rw [← e2]; exact X'.warmed.alike) hp hb k1 k2 k3 (by rw [e1]; exact hce) hcv hcl T' rfl X'
    exact ⟨t2, st.trans a1, b1⟩
theorem vx_calld {S SX : Type} {post : UInt64 → S → Prop} {px : SX → Prop} {B : S → State → Prop} {BX : String → SX → State → Prop} {AX : Nat → Prop} (hr : vx_Run p l e R s m args below meth c H locs cells slots mc ms (F0 m pc ls st0) rest (va_Qd post B A1 a) (vx_X px BX AX) free) (hS : va_S A0 H0 H locs) (hA : ∀ q, q < H.size → A1 q → A0 q) (hf : ∀ q, free q → A0 q) (hAX : ∀ q, q < H.size → AX q → A0 q)
    (kx : ∀ (E : String) (ce : Cell) (q9 : Addr) (u : SX) (t : State) (H1 : Heap) (locs1 : List Loc), t.heap = H1 → s.vm.Alike t.vm → px u → BX E u t → H.size ≤ H1.size → (∀ q : Nat, q < H.size → ¬ AX q → H1[q]? = H[q]?) → va_S A0 H0 H1 locs1 → H1[q9]? = some ce → ce.vm = .none → s.vm.findClass E = some ce.cls → vx_W p l e R s m args below meth c H1 locs1 (cells + mc) (slots + ms) Q (F0 m pc ls rest) q9)
    (kk : ∀ (r : UInt64) (u : S) (t : State) (H1 : Heap) (locs1 : List Loc), t.heap = H1 → s.vm.Alike t.vm → post r u → B u t → H.size ≤ H1.size → (∀ q : Nat, q < H.size → ¬ A1 q → H1[q]? = H[q]?) → va_S A0 H0 H1 locs1 → W p l e R s m args below meth c H1 locs1 (cells + mc) (slots + ms) Q (F0 m (pc + 3) ls (.double r :: rest))) : W p l e R s m args below meth c H locs cells slots Q (F0 m pc ls st0) := by
  intro T hT X
  rcases hr T hT X with ⟨v, st₀, t, T', L, h0, X', hL, e1, e2, ⟨⟨r, u, hv, hp, hb⟩, hF⟩, st⟩ | ⟨q, st₀, t, T', L, E, ce, h0, X', hL, e1, e2, ⟨u, hp, hb, hF⟩, hce, hcv, hcl, st⟩
  · cases hv
    obtain ⟨k1, k2, k3⟩ := vx_keep h0 e1 hS hA hf hL hF
    obtain ⟨t2, a1, b1⟩ := kk r u t T'.heap (locs ++ L) e1.symm (by rw [← e2]; exact X'.warmed.alike) hp hb k1 k2 k3 T' rfl X'
    exact ⟨t2, st t2 a1, b1⟩
  · obtain ⟨k1, k2, k3⟩ := vx_keep h0 e1 hS hAX hf hL hF
    obtain ⟨t2, a1, b1⟩ := kx E ce q u t T'.heap (locs ++ L) e1.symm (by rw [← e2]; exact X'.warmed.alike) hp hb k1 k2 k3 (by rw [e1]; exact hce) hcv hcl T' rfl X'
    exact ⟨t2, st.trans a1, b1⟩
theorem vx_callv {S SX : Type} {post : S → Prop} {px : SX → Prop} {B : S → State → Prop} {BX : String → SX → State → Prop} {AX : Nat → Prop} (hr : vx_Run p l e R s m args below meth c H locs cells slots mc ms (F0 m pc ls st0) rest (va_Qv post B A1 a) (vx_X px BX AX) free) (hS : va_S A0 H0 H locs) (hA : ∀ q, q < H.size → A1 q → A0 q) (hf : ∀ q, free q → A0 q) (hAX : ∀ q, q < H.size → AX q → A0 q)
    (kx : ∀ (E : String) (ce : Cell) (q9 : Addr) (u : SX) (t : State) (H1 : Heap) (locs1 : List Loc), t.heap = H1 → s.vm.Alike t.vm → px u → BX E u t → H.size ≤ H1.size → (∀ q : Nat, q < H.size → ¬ AX q → H1[q]? = H[q]?) → va_S A0 H0 H1 locs1 → H1[q9]? = some ce → ce.vm = .none → s.vm.findClass E = some ce.cls → vx_W p l e R s m args below meth c H1 locs1 (cells + mc) (slots + ms) Q (F0 m pc ls rest) q9)
    (kk : ∀ (u : S) (t : State) (H1 : Heap) (locs1 : List Loc), t.heap = H1 → s.vm.Alike t.vm → post u → B u t → H.size ≤ H1.size → (∀ q : Nat, q < H.size → ¬ A1 q → H1[q]? = H[q]?) → va_S A0 H0 H1 locs1 → W p l e R s m args below meth c H1 locs1 (cells + mc) (slots + ms) Q (F0 m (pc + 3) ls (rest))) : W p l e R s m args below meth c H locs cells slots Q (F0 m pc ls st0) := by
  intro T hT X
  rcases hr T hT X with ⟨v, st₀, t, T', L, h0, X', hL, e1, e2, ⟨⟨u, hv, hp, hb⟩, hF⟩, st⟩ | ⟨q, st₀, t, T', L, E, ce, h0, X', hL, e1, e2, ⟨u, hp, hb, hF⟩, hce, hcv, hcl, st⟩
  · cases hv
    obtain ⟨k1, k2, k3⟩ := vx_keep h0 e1 hS hA hf hL hF
    obtain ⟨t2, a1, b1⟩ := kk u t T'.heap (locs ++ L) e1.symm (by rw [← e2]; exact X'.warmed.alike) hp hb k1 k2 k3 T' rfl X'
    exact ⟨t2, st t2 a1, b1⟩
  · obtain ⟨k1, k2, k3⟩ := vx_keep h0 e1 hS hAX hf hL hF
    obtain ⟨t2, a1, b1⟩ := kx E ce q u t T'.heap (locs ++ L) e1.symm (by rw [← e2]; exact X'.warmed.alike) hp hb k1 k2 k3 (by rw [e1]; exact hce) hcv hcl T' rfl X'
    exact ⟨t2, st.trans a1, b1⟩
/-- caught by the row x of this method's table; the rows ahead don't take it -/
theorem vx_catch {own name : String} {E : String} {ce : Cell} {q : Addr} (hown : s.vm.findClass own = some m.cls) (pre : List ExceptionTableEntry) (x : ExceptionTableEntry) (suf : List ExceptionTableEntry) (hsplit : c.exceptionTable.toList = pre ++ x :: suf)
    (hpass : ∀ z ∈ pre, covers z pc = false ∨ (z.catchType ≠ 0 ∧ ∃ nm : String, (Cond.classLink own z.catchType nm).before args s = true ∧ va_Nc E nm s)) (hx : covers x pc = true) (h0 : x.catchType ≠ 0)
    (hlink : (Cond.classLink own x.catchType name).before args s = true) (hcast : (Cond.castable E name).before args s = true) (hcell : H[q]? = some ce) (hv : ce.vm = .none) (hcl : s.vm.findClass E = some ce.cls)
    (kk : W p l e R s m args below meth c H locs cells slots Q (F0 m x.handlerPc ls [.ref q])) : vx_W p l e R s m args below meth c H locs cells slots Q (F0 m pc ls rest) q := by
  intro T hT X
  have hpl : e.platform.magicAccessors = ({} : Platform).magicAccessors := by rw [X.admits.platform]
  obtain ⟨c3, c4, hc3, hc4, hasg⟩ := Cond.castable_spec hcast
  cases Option.some.inj (hc3.symm.trans hcl)
  obtain ⟨c5, hc5, hcl5⟩ := Cond.classLink_spec hown hlink e.platform hpl
  cases Option.some.inj (hc4.symm.trans hc5)
  obtain ⟨vm', X', st⟩ := X.thenCaughtThrough q (g := F0 m pc ls rest) rfl (Steps.refl _) (by rw [hT]; exact hcell) (by rw [hv]; rfl) (by obtain ⟨k9, h9, -⟩ := Vm.findClass_spec hcl; exact ⟨k9, h9⟩) pre x suf hsplit
    (fun z hz => by
      rcases hpass z hz with h | ⟨hz0, nm, hl1, hn1⟩
      · exact Or.inl h
      · obtain ⟨c6, hc6, hcl6⟩ := Cond.classLink_spec hown hl1 e.platform hpl
        obtain ⟨a8, b8, h1, h2, h3⟩ := hn1
        cases Option.some.inj (h1.symm.trans hcl)
        cases Option.some.inj (h2.symm.trans hc6)
        exact Or.inr ⟨hz0, _, hcl6, h3⟩) hx (Or.inr ⟨h0, c4, hcl5, hasg⟩)
  obtain ⟨t, a1, b1⟩ := kk (T.setVm vm') hT X'
  exact ⟨t, st.trans a1, b1⟩
end Rows
section Ends
variable {p : Program} {l : Launch} {e : Env} {R : Room} {s : State} {m : MethodId} {args : Array Value} {below : List Frame} {meth : Method} {c : Code} {H : Heap} {locs : List Loc} {cells slots : Nat} {Q : State → Prop}
variable {mc ms : Nat} {free : Addr → Prop} {A0 A1 : Nat → Prop} {H0 : Heap} {a : Array Value} {ls : Array Slot} {st0 rest : List Value}
variable {Qc : Array Value → State → Outcome → State → Prop} {XC : String → State → State → Prop}
/-- what a body that may throw owes at its end -/
def vx_MQ (below : List Frame) (Qc : Array Value → State → Outcome → State → Prop) (XC : String → State → State → Prop) (a : Array Value) (s : State) (mc ms : Nat) (free : Addr → Prop) : State → Prop := fun t =>
  ∃ o, t.status = .running ∧ Ended t below o ∧ vx_Q Qc XC mc ms free a s o t
theorem vx_ret {g : JFrame} {mc ms : Nat} (k : W p l e R s m args below meth c H locs cells slots (MQ below Qc args s mc ms free) g) : W p l e R s m args below meth c H locs cells slots (vx_MQ below Qc XC args s mc ms free) g := by
  intro T hT X
  obtain ⟨t, a1, o, b1, b2, b3, b4⟩ := k T hT X
  exact ⟨t, a1, o, b1, b2, Or.inl ⟨b3, b4⟩⟩
/-- not caught here: it goes on to the caller -/
theorem vx_widen {g : JFrame} {q : Addr} {k n : Nat} (h1 : cells ≤ k) (h2 : slots ≤ n) (kk : vx_W p l e R s m args below meth c H locs k n Q g q) : vx_W p l e R s m args below meth c H locs cells slots Q g q := fun T hT X => kk T hT (stand_widen X h1 h2)
theorem vx_out {pc : Nat} {E : String} {ce : Cell} {q : Addr} {mc ms : Nat} (hout : ∀ x ∈ c.exceptionTable.toList, covers x pc = false) (hlocks : meth.locks = false) (hcell : H[q]? = some ce) (hv : ce.vm = .none) (hcl : s.vm.findClass E = some ce.cls)
    (hx : ∀ t : State, t.heap = H → s.vm.Alike t.vm → XC E s t) (hf : ∀ z ∈ locs, free z.base) (hc : cells ≤ mc) (hs : slots ≤ ms) :
    vx_W p l e R s m args below meth c H locs cells slots (vx_MQ below Qc XC args s mc ms free) (F0 m pc ls rest) q := by
  intro T hT X
  obtain ⟨st1, hrun, hend, hW, hsm⟩ := X.leaveThrown q (g := F0 m pc ls rest) rfl rfl rfl hout hlocks
  have hcell9 : (T.setFrames (.throwing q :: below)).heap[q]? = some ce := by
    show T.heap[q]? = some ce
    rw [hT]; exact hcell
  exact ⟨_, st1, .threw q, hrun, hend, Or.inr ⟨q, rfl, E, ce, locs, hx _ hT hW.alike, hcell9, hv, hcl, hW, hsm.mono hc hs, hf⟩⟩
theorem vx_frame {U : State} {k n : Nat} (h : s.sameButNew ({ U with vm := s.vm } : State) locs k n) : s.heap.size ≤ U.heap.size ∧ ∀ q : Nat, q < s.heap.size → (∀ z ∈ locs, z.base ≠ q) → U.heap[q]? = s.heap[q]? := by
  obtain ⟨-, h2, -, -, -, h6⟩ := h
  refine ⟨h2, fun q hq hz => ?_⟩
  obtain ⟨c9, e1, e2, e3, e4⟩ := h6 q _ (Array.getElem?_eq_getElem hq)
  have hs : c9.slots = (s.heap[q]).slots := Array.ext_getElem? fun i => e4 i fun hm => hz _ hm rfl
  have h9 : c9 = s.heap[q] := by
    rw [hs] at e2
    exact e2
  have e5 : U.heap[q]? = some c9 := e1
  rw [e5, h9, Array.getElem?_eq_getElem hq]
/-- the words of a throw but the four that speak of the heap -/
def vx_no (w : Cond) : Bool := decide (w ≠ .isRef (.static Bundle.tN "UNASSIGNED_STACK" Bundle.steD)) && decide (w ≠ .isRef (.static Bundle.tN "SUPPRESSED_SENTINEL" Bundle.listD)) && decide (w ≠ .laysStatic Bundle.tN "UNASSIGNED_STACK" Bundle.steD) && decide (w ≠ .laysStatic Bundle.tN "SUPPRESSED_SENTINEL" Bundle.listD)
def vx_at0 (own : String) (ic : Nat) (X : String) (names : List String) : List Cond := (Bundle.ownAtoms0 own ic X names).filter vx_no
def vx_atS (own : String) (ic : Nat) (X : String) (names : List String) : List Cond := (Bundle.ownAtoms own ic X names).filter vx_no
/-- a word that the tables alone decide, or a good one -/
def vx_ot (w : Cond) : Bool := w.onTables || goodWord w
theorem vx_ot_at {args a' : Array Value} {s U : State} {w : Cond} (hW : s.WarmedH U.vm) (hvm : s.vm = U.vm) (hg : vx_ot w = true) (h : w.before args s = true) : w.before a' U = true := by
  simp only [vx_ot, Bool.or_eq_true] at hg
  rcases hg with hg | hg
  · exact va_tabs hg hvm h
  · exact word_at hW (good_of_word hg) h
/-- a list's words: the good ones out of the method's own list, the others by premises of their own -/
theorem vx_hat {args : Array Value} {s : State} {L B : List Cond} (h1 : ∀ w ∈ L.filter goodWord, w.before args s = true) (h2 : ∀ w ∈ L.filter (fun w => !goodWord w), w ∈ B) (h3 : ∀ w ∈ B, w.before args s = true) : ∀ w ∈ L, w.before args s = true := by
  intro w hw
  by_cases g : goodWord w = true
  · exact h1 w (List.mem_filter.mpr ⟨hw, g⟩)
  · refine h3 w (h2 w (List.mem_filter.mpr ⟨hw, ?_⟩))
    show (!goodWord w) = true
    cases hgw : goodWord w
    · rfl
    · exact absurd hgw g
theorem vx_c {args : Array Value} {s : State} {w : Cond} {B : List Cond} (h : w.before args s = true) (t : ∀ w ∈ B, w.before args s = true) : ∀ w' ∈ w :: B, w'.before args s = true := fun w' h' => (List.mem_cons.mp h').elim (fun e => by rw [e]; exact h) (t w')
theorem vx_n {args : Array Value} {s : State} : ∀ w ∈ ([] : List Cond), w.before args s = true := fun _ h => nomatch h
theorem vx_own {args : Array Value} {s : State} {L : List Cond} (h1 : ∀ w ∈ L.filter vx_no, w.before args s = true)
    (hU : (Cond.isRef (.static Bundle.tN "UNASSIGNED_STACK" Bundle.steD)).before args s = true) (hN : (Cond.isRef (.static Bundle.tN "SUPPRESSED_SENTINEL" Bundle.listD)).before args s = true)
    (lU : (Cond.laysStatic Bundle.tN "UNASSIGNED_STACK" Bundle.steD).before args s = true) (lN : (Cond.laysStatic Bundle.tN "SUPPRESSED_SENTINEL" Bundle.listD).before args s = true) : ∀ w ∈ L, w.before args s = true := by
  intro w hw
  by_cases e1 : w = .isRef (.static Bundle.tN "UNASSIGNED_STACK" Bundle.steD)
  · rw [e1]; exact hU
  · by_cases e2 : w = .isRef (.static Bundle.tN "SUPPRESSED_SENTINEL" Bundle.listD)
    · rw [e2]; exact hN
    · by_cases e3 : w = .laysStatic Bundle.tN "UNASSIGNED_STACK" Bundle.steD
      · rw [e3]; exact lU
      · by_cases e4 : w = .laysStatic Bundle.tN "SUPPRESSED_SENTINEL" Bundle.listD
        · rw [e4]; exact lN
        · exact h1 w (List.mem_filter.mpr ⟨hw, by unfold vx_no; rw [decide_eq_true e1, decide_eq_true e2, decide_eq_true e3, decide_eq_true e4]; rfl⟩)
/-- where a static field lies, its class's statics cell in H -/
def vx_L (C n d : String) (A : Nat → Prop) (U : State) (H : Heap) : Prop := ∃ (c : ClassId) (k : Class) (i : Nat) (f : Field) (a : Nat) (cell : Cell), U.vm.findClass C = some c ∧ U.fieldFound? C n d = some (c, k, i, f) ∧ f.isStatic = true ∧ k.statics = some a ∧ H[a]? = some cell ∧ cell.vm.isStatics = true ∧ cell.cls = c ∧ f.slot < cell.slots.size ∧ k.staticTypes[f.slot]? = some f.type ∧ ¬ A a
theorem vx_L.moved {C n d : String} {A : Nat → Prop} {u U : State} {H : Heap} (hvm : u.vm.Alike U.vm) (h : vx_L C n d A u H) : vx_L C n d A U H := by
  obtain ⟨c, k, i, f, a, cell, h1, h2, h3, h4, h5, h6, h7, h8, h9, h10⟩ := h
  obtain ⟨k', hi', he⟩ := State.fieldFound?_setVm hvm h2
  exact ⟨c, k', i, f, a, cell, by rw [hvm.findClass]; exact h1, hi', h3, by rw [he]; exact h4, h5, h6, h7, h8, by rw [he]; exact h9, h10⟩
theorem vx_L.kept {C n d : String} {A : Nat → Prop} {U : State} {H H1 : Heap} (h : vx_L C n d A U H) (hq : ∀ a : Nat, a < H.size → ¬ A a → H1[a]? = H[a]?) : vx_L C n d A U H1 := by
  obtain ⟨c, k, i, f, a, cell, h1, h2, h3, h4, h5, h6, h7, h8, h9, h10⟩ := h
  exact ⟨c, k, i, f, a, cell, h1, h2, h3, h4, by rw [hq a (Array.getElem?_eq_some_iff.mp h5).1 h10]; exact h5, h6, h7, h8, h9, h10⟩
theorem vx_L.narrow {C n d : String} {A B : Nat → Prop} {U : State} {H : Heap} (h : vx_L C n d A U H) (hAB : ∀ q, B q → A q) : vx_L C n d B U H := by
  obtain ⟨c, k, i, f, a, cell, h1, h2, h3, h4, h5, h6, h7, h8, h9, h10⟩ := h
  exact ⟨c, k, i, f, a, cell, h1, h2, h3, h4, h5, h6, h7, h8, h9, fun z => h10 (hAB _ z)⟩
theorem vx_L.word {C n d : String} {A : Nat → Prop} {s : State} {args : Array Value} (h : vx_L C n d A s s.heap) : (Cond.laysStatic C n d).before args s = true := by
  obtain ⟨c, k, i, f, a, cell, h1, h2, h3, h4, h5, h6, h7, h8, h9, -⟩ := h
  show (Cond.laysStatic C n d).holds args s none s [] = true
  exact Cond.laysStatic_of h1 h2 h3 h4 h5 h6 h7 h8 h9
/-- .. and what it holds: null or some reference -/
def vx_Zq (C n d : String) (A : Nat → Prop) (U : State) (H : Heap) : Prop := va_Zq C n d A U H ∧ vx_L C n d A U H
theorem vx_Zq.moved {C n d : String} {A : Nat → Prop} {u U : State} {H : Heap} (hvm : u.vm.Alike U.vm) (h : vx_Zq C n d A u H) : vx_Zq C n d A U H := ⟨va_Zq.moved hvm h.1, vx_L.moved hvm h.2⟩
theorem vx_Zq.kept {C n d : String} {A : Nat → Prop} {U : State} {H H1 : Heap} (h : vx_Zq C n d A U H) (hq : ∀ a : Nat, a < H.size → ¬ A a → H1[a]? = H[a]?) : vx_Zq C n d A U H1 := ⟨va_Zq.kept h.1 hq, vx_L.kept h.2 hq⟩
theorem vx_Zq.narrow {C n d : String} {A B : Nat → Prop} {U : State} {H : Heap} (h : vx_Zq C n d A U H) (hAB : ∀ q, B q → A q) : vx_Zq C n d B U H := ⟨va_Zq.narrow h.1 hAB, vx_L.narrow h.2 hAB⟩
theorem vx_Zqof {args : Array Value} {s : State} {C n d : String} {A : Nat → Prop} (hl : (Cond.laysStatic C n d).before args s = true) (hini : (Cond.initialized C).before args s = true) (h : (Cond.isRef (.static C n d)).before args s = true) (hA : ∀ a : Nat, a < s.heap.size → ¬ A a) : vx_Zq C n d A s s.heap := by
  refine ⟨va_Zqof hl hini h hA, ?_⟩
  obtain ⟨c, k, i, f, a, cell, h1, h2, h3, h4, h5, h6, h7, h8, h9⟩ := Cond.laysStatic_spec hl
  exact ⟨c, k, i, f, a, cell, h1, h2, h3, h4, h5, h6, h7, h8, h9, hA a (Array.getElem?_eq_some_iff.mp h5).1⟩
theorem vx_isRef {C n d : String} {v : Value} {A : Nat → Prop} {s : State} {args : Array Value} (h : va_Z C n d v A s s.heap) (hv : v.isRef = true) : (Cond.isRef (.static C n d)).before args s = true := by
  obtain ⟨cf, kf, fi, f, a, cell, h1, h2, h3, h4, h5, h6, h7, -⟩ := h
  have he : (Term.static C n d).eval args s none [] s = some v := by
    simp [Term.eval, State.fieldNamed?, h1, h2, h4, h5, h6, h7]
  simp only [Cond.before, Cond.holds, Cond.value, he]
  cases v <;> simp_all [Value.isRef]
theorem vx_isRefq {C n d : String} {A : Nat → Prop} {s : State} {args : Array Value} (h : va_Zq C n d A s s.heap) : (Cond.isRef (.static C n d)).before args s = true := by
  rcases h with h | ⟨t, h⟩
  · exact vx_isRef h rfl
  · exact vx_isRef h rfl
/-- the same frame, seen from here: as if the method were called anew in this heap -/
theorem vx_rebase {T : State} (X : Stand p l e R s m args below meth c T locs cells slots) {R' : Room} (hf : R'.frames ≤ R.frames) (hl : R'.locals ≤ R.locals) (hc : cells + R'.cells ≤ R.cells) (hs : slots + R'.slots ≤ R.slots) :
    Stand p l e R' ((T.setVm s.vm).setFrames (.invoking m args :: below)) m args below meth c T [] 0 0 := by
  have htop : (T.setVm s.vm).topJava?.isSome := X.here.top
  have hF : ((T.setVm s.vm).setFrames (.invoking m args :: below)).frames = .invoking m args :: below := State.frames_setFrames _ (State.cur_lt_of_top htop)
  obtain ⟨g₀, hg0⟩ := Option.isSome_iff_exists.mp htop
  obtain ⟨r, hr⟩ := State.topJava?_eq_some.mp hg0
  have hl9 : e.platform.stackLimits (T.setVm s.vm).me = e.platform.stackLimits s.me := X.limits
  have hb9 : (T.setVm s.vm).me.stackBytes = s.me.stackBytes := X.bytes
  refine ⟨X.admits, X.cas, X.clock, hF, ?_, X.hears, X.method, X.code, X.here, X.tail, X.warmed, ?_, ?_, ?_⟩
  · have h := X.room
    have hU : ((T.setVm s.vm).setFrames (.invoking m args :: below)).localsInUse = s.localsInUse := by
      rw [State.localsInUse_invoking hF (meth := meth) (c := c) X.method X.code, State.localsInUse_invoking X.frames X.method X.code]
    simp only [State.hasRoom, Bool.and_eq_true, decide_eq_true_eq] at h ⊢
    obtain ⟨⟨⟨⟨h1, h2, h3, h4, h5, h6⟩, h7⟩, h8⟩, h9⟩ := h
    rw [X.frames, List.length_cons] at h2 h3
    have q1 := X.heapSize
    have q2 := X.used
    simp only [hF, hU, List.length_cons, State.stackLimits_setFrames, State.stackBytes_setFrames, hl9, hb9]
    refine ⟨⟨⟨⟨by omega, by omega, by omega, by omega, by omega, h6⟩, ?_⟩, ?_⟩, X.book⟩
    · show T.heap.size + R'.cells ≤ e.platform.maxCells
      omega
    · show T.slotsUsed + R'.slots ≤ e.platform.maxSlots
      omega
  · rw [State.stackLimits_setFrames]; rfl
  · rw [State.stackBytes_setFrames]; rfl
  · refine ⟨?_, Nat.le_refl _, Nat.le_refl _, ?_, ?_, fun a c9 h9 => ⟨c9, h9, rfl, rfl, fun _ _ => rfl⟩⟩
    · obtain ⟨t, ht, -⟩ := State.frames_cons hr
      show T.setVm s.vm = { ((T.setVm s.vm).setFrames (.invoking m args :: below)).setFrames (T.setVm s.vm).frames with heap := T.heap, slotsUsed := T.slotsUsed }
      rw [State.setFrames_setFrames, State.setFrames_self ht]
      rfl
    · show T.slotsUsed = T.slotsUsed + ((T.heap.toList.drop T.heap.size).map (·.slots.size)).sum
      rw [List.drop_eq_nil_of_le (Nat.le_of_eq Array.length_toList)]
      rfl
    · show ((T.heap.toList.drop T.heap.size).map (·.slots.size)).sum ≤ 0
      rw [List.drop_eq_nil_of_le (Nat.le_of_eq Array.length_toList)]
      exact Nat.le_refl _
/-- 'throw new E()': new; dup; invokespecial; athrow -/
theorem vx_throw0 {cc : ByteArray} {pc : Nat} (hexec : p.tables.exec = Jvm.exec) (hb : c.code = cc) (hl : l.stackTraces = false) {own cls : String} {names : List String} {ik ic mc ms : Nat} {A : Nat → Prop}
    (hown : s.vm.findClass own = some m.cls) (hcls : Bundle.fit cls = true) (hnames : ∀ n ∈ names, Bundle.fit n = true)
    (hk : (Cond.classLink own ik cls).before args s = true) (hini : (Cond.initialized cls).before args s = true) (hat : ∀ w ∈ vx_at0 own ic cls names, w.before args s = true)
    (hgood : ∀ w ∈ Cond.classLink own ik cls :: Cond.initialized cls :: vx_at0 own ic cls names, vx_ot w = true)
    (hU : vx_Zq Bundle.tN "UNASSIGNED_STACK" Bundle.steD A s s.heap) (hN : vx_Zq Bundle.tN "SUPPRESSED_SENTINEL" Bundle.listD A s s.heap) (hS : va_S A s.heap H locs) (hsize : ls.size = c.maxLocals)
    (d0 : decode cc pc = .ok (.new ik, 3)) (d3 : decode cc (pc + 3) = .ok (.dup, 1)) (d4 : decode cc (pc + 4) = .ok (.invokespecial ic, 3)) (d7 : decode cc (pc + 7) = .ok (.athrow, 1))
    (hout : ∀ x ∈ c.exceptionTable.toList, covers x (pc + 7) = false)
    (hRframes : names.length + 3 < R.frames) (hRlocals : (rest.map fun v => v.category).sum + (13 * (names.length + 1) + 42) ≤ R.locals) (hRcells : cells + 1 ≤ R.cells) (hRslots : slots + 6 ≤ R.slots) (hlocks : meth.locks = false)
    (hx : ∀ t : State, s.vm.Alike t.vm → H.size ≤ t.heap.size → (∀ q : Nat, q < H.size → t.heap[q]? = H[q]?) → XC cls s t)
    (hf : ∀ z ∈ locs, free z.base) (hc : cells + 1 ≤ mc) (hs : slots + 6 ≤ ms) :
    W p l e R s m args below meth c H locs cells slots (vx_MQ below Qc XC args s mc ms free) (F0 m pc ls rest) := by
  intro T hT X
  have htr : e.platform.stackTraces = false := (show e.platform.stackTraces = l.stackTraces by rw [X.admits.platform]).trans hl
  have Y := vx_rebase X (R' := { frames := R.frames, locals := R.locals, cells := 1, slots := 6 }) (Nat.le_refl _) (Nat.le_refl _) hRcells hRslots
  obtain ⟨s', hA⟩ : ∃ z, z = (T.setVm s.vm).setFrames (.invoking m args :: below) := ⟨_, rfl⟩
  rw [← hA] at Y
  have hvm : s'.vm = s.vm := by rw [hA]; rfl
  have hhp : s'.heap = H := by rw [hA]; exact hT
  have hW0 : s.WarmedH s'.vm := by rw [hvm]; exact State.WarmedH.refl s
  have hat' : ∀ w ∈ vx_at0 own ic cls names, w.before args s' = true := fun w hw => vx_ot_at hW0 hvm.symm (hgood w (List.mem_cons_of_mem _ (List.mem_cons_of_mem _ hw))) (hat w hw)
  have hk' : (Cond.classLink own ik cls).before args s' = true := vx_ot_at hW0 hvm.symm (hgood _ List.mem_cons_self) hk
  have hini' : (Cond.initialized cls).before args s' = true := vx_ot_at hW0 hvm.symm (hgood _ (List.mem_cons_of_mem _ List.mem_cons_self)) hini
  have hU' : vx_Zq Bundle.tN "UNASSIGNED_STACK" Bundle.steD A s' s'.heap := by rw [hhp]; exact vx_Zq.moved hW0.alike (hU.kept hS.2.1)
  have hN' : vx_Zq Bundle.tN "SUPPRESSED_SENTINEL" Bundle.listD A s' s'.heap := by rw [hhp]; exact vx_Zq.moved hW0.alike (hN.kept hS.2.1)
  have h : ∀ w ∈ Bundle.ownAtoms0 own ic cls names, w.before args s' = true := vx_own hat' (vx_isRefq hU'.1) (vx_isRefq hN'.1) hU'.2.word hN'.2.word
  have hown' : s'.vm.findClass own = some m.cls := by rw [hvm]; exact hown
  have hins : (Cond.instantiable cls 6).before args s' = true := h _ (by simp [Bundle.ownAtoms0])
  obtain ⟨vm₁, cX, kX, hfX, hkX, -, -, X₁, st1⟩ := Y.newCold hexec (own := own) (C := cls) (index := ik) (n := 6) hown' hk' hins hini'
    (g := F0 m pc ls rest) rfl (by rw [hb]; exact d0) (Nat.le_refl _) (Nat.le_refl _)
  generalize hT1 : (T.setVm vm₁).pushCell { cls := cX, slots := kX.instanceTypes.map defaultValue, vm := .none } = T1 at X₁ st1
  have hcat : (Value.ref T.heap.size).category = 1 := rfl
  have hcellA : T1.heap[T.heap.size]? = some (freshCell cX kX) := by rw [← hT1]; exact State.heap_pushCell_size _ _
  have d3' : decode c.code (pc + 3) = .ok (.dup, 1) := by rw [hb]; exact d3
  obtain ⟨U, hsteps, hrun, hend, hW, hsame, ce, hce, hO⟩ := X₁.ctorThrow0 hexec htr (own := own) (cls := cls) (names := names) (ic := ic) hown' hcls hnames h (fun x hx => nomatch hx) hfX hkX hcellA (by rw [hhp, hT]; exact Nat.le_refl _)
    (g := { method := m, pc := pc + 4, locals := ls, stack := .ref T.heap.size :: .ref T.heap.size :: rest, locked := none }) rfl hsize rfl rfl (rest := rest) rfl
    (by rw [hb]; exact d4) (by rw [hb]; exact d7) hout hRframes (by simp only [List.map_cons, List.sum_cons, hcat]; omega) hlocks
  obtain ⟨f1, f2⟩ := vx_frame hsame
  rw [hhp] at f1 f2
  have hWs : s.WarmedH U.vm := State.WarmedH.trans hW0 hW
  have hcl : s.vm.findClass cls = some ce.cls := by
    have h9 := hO.cls
    rw [hvm] at h9
    exact h9
  have hall : s.sameButNew ({ U with vm := s.vm } : State) locs mc ms := by
    subst hA
    obtain ⟨e1, e2⟩ := hsame
    rw [State.setFrames_setFrames] at e1
    have h2 : (T.setVm s.vm).sameButNew ({ U with vm := s.vm } : State) [] (0 + 1) (0 + 6) := ⟨e1, e2⟩
    have h3 := X.same.trans h2
    rw [List.append_nil] at h3
    exact h3.mono hc hs
  refine ⟨U, ?_, .threw T.heap.size, hrun, hend, Or.inr ⟨T.heap.size, rfl, cls, ce, locs, hx U hWs.alike f1 (fun q hq => f2 q hq (fun z hz => nomatch hz)), hce, hO.vm, hcl, hWs, hall, hf⟩⟩
  refine st1 _ ?_
  show Steps p.tables e below (T1.setTop { method := m, pc := pc + 3, locals := ls, stack := .ref T.heap.size :: rest, locked := none }) _
  jvm_step X₁.here [X₁.here.top, hexec, d3', Value.category]
  exact hsteps
/-- 'throw new E("text")': new; dup; ldc; invokespecial; athrow -/
theorem vx_throwS {cc : ByteArray} {pc : Nat} (hexec : p.tables.exec = Jvm.exec) (hb : c.code = cc) (hl : l.stackTraces = false) {own cls text : String} {names : List String} {ik is ic mc ms sa : Nat} {A : Nat → Prop}
    (hown : s.vm.findClass own = some m.cls) (hcls : Bundle.fit cls = true) (hnames : ∀ n ∈ names, Bundle.fit n = true)
    (hk : (Cond.classLink own ik cls).before args s = true) (hini : (Cond.initialized cls).before args s = true) (hstr : vk_R own is text sa s) (hat : ∀ w ∈ vx_atS own ic cls names, w.before args s = true)
    (hgood : ∀ w ∈ Cond.classLink own ik cls :: Cond.initialized cls :: vx_atS own ic cls names, vx_ot w = true)
    (hU : vx_Zq Bundle.tN "UNASSIGNED_STACK" Bundle.steD A s s.heap) (hN : vx_Zq Bundle.tN "SUPPRESSED_SENTINEL" Bundle.listD A s s.heap) (hS : va_S A s.heap H locs) (hsize : ls.size = c.maxLocals)
    (d0 : decode cc pc = .ok (.new ik, 3)) (d3 : decode cc (pc + 3) = .ok (.dup, 1)) (d4 : decode cc (pc + 4) = .ok (.ldc is, 2)) (d6 : decode cc (pc + 6) = .ok (.invokespecial ic, 3)) (d9 : decode cc (pc + 9) = .ok (.athrow, 1))
    (hout : ∀ x ∈ c.exceptionTable.toList, covers x (pc + 9) = false)
    (hRframes : names.length + 3 < R.frames) (hRlocals : (rest.map fun v => v.category).sum + (13 * (names.length + 1) + 43) ≤ R.locals) (hRcells : cells + 1 ≤ R.cells) (hRslots : slots + 6 ≤ R.slots) (hlocks : meth.locks = false)
    (hx : ∀ t : State, s.vm.Alike t.vm → H.size ≤ t.heap.size → (∀ q : Nat, q < H.size → t.heap[q]? = H[q]?) → XC cls s t)
    (hf : ∀ z ∈ locs, free z.base) (hc : cells + 1 ≤ mc) (hs : slots + 6 ≤ ms) :
    W p l e R s m args below meth c H locs cells slots (vx_MQ below Qc XC args s mc ms free) (F0 m pc ls rest) := by
  intro T hT X
  have htr : e.platform.stackTraces = false := (show e.platform.stackTraces = l.stackTraces by rw [X.admits.platform]).trans hl
  have Y := vx_rebase X (R' := { frames := R.frames, locals := R.locals, cells := 1, slots := 6 }) (Nat.le_refl _) (Nat.le_refl _) hRcells hRslots
  obtain ⟨s', hA⟩ : ∃ z, z = (T.setVm s.vm).setFrames (.invoking m args :: below) := ⟨_, rfl⟩
  rw [← hA] at Y
  have hvm : s'.vm = s.vm := by rw [hA]; rfl
  have hhp : s'.heap = H := by rw [hA]; exact hT
  have hW0 : s.WarmedH s'.vm := by rw [hvm]; exact State.WarmedH.refl s
  have hat' : ∀ w ∈ vx_atS own ic cls names, w.before args s' = true := fun w hw => vx_ot_at hW0 hvm.symm (hgood w (List.mem_cons_of_mem _ (List.mem_cons_of_mem _ hw))) (hat w hw)
  have hk' : (Cond.classLink own ik cls).before args s' = true := vx_ot_at hW0 hvm.symm (hgood _ List.mem_cons_self) hk
  have hini' : (Cond.initialized cls).before args s' = true := vx_ot_at hW0 hvm.symm (hgood _ (List.mem_cons_of_mem _ List.mem_cons_self)) hini
  have hU' : vx_Zq Bundle.tN "UNASSIGNED_STACK" Bundle.steD A s' s'.heap := by rw [hhp]; exact vx_Zq.moved hW0.alike (hU.kept hS.2.1)
  have hN' : vx_Zq Bundle.tN "SUPPRESSED_SENTINEL" Bundle.listD A s' s'.heap := by rw [hhp]; exact vx_Zq.moved hW0.alike (hN.kept hS.2.1)
  have h : ∀ w ∈ Bundle.ownAtoms own ic cls names, w.before args s' = true := vx_own hat' (vx_isRefq hU'.1) (vx_isRefq hN'.1) hU'.2.word hN'.2.word
  have hown' : s'.vm.findClass own = some m.cls := by rw [hvm]; exact hown
  have hins : (Cond.instantiable cls 6).before args s' = true := h _ (by simp [Bundle.ownAtoms])
  obtain ⟨vm₁, cX, kX, hfX, hkX, -, -, X₁, st1⟩ := Y.newCold hexec (own := own) (C := cls) (index := ik) (n := 6) hown' hk' hins hini'
    (g := F0 m pc ls rest) rfl (by rw [hb]; exact d0) (Nat.le_refl _) (Nat.le_refl _)
  generalize hT1 : (T.setVm vm₁).pushCell { cls := cX, slots := kX.instanceTypes.map defaultValue, vm := .none } = T1 at X₁ st1
  have hcat : (Value.ref T.heap.size).category = 1 := rfl
  have hcellA : T1.heap[T.heap.size]? = some (freshCell cX kX) := by rw [← hT1]; exact State.heap_pushCell_size _ _
  have d3' : decode c.code (pc + 3) = .ok (.dup, 1) := by rw [hb]; exact d3
  have d4' : decode c.code (pc + 4) = .ok (.ldc is, 2) := by rw [hb]; exact d4
  have hstr' : vk_R own is text sa s' := vk_R.warm hW0 hstr
  obtain ⟨U, hsteps, hrun, hend, hW, hsame, ce, hce, hO⟩ := X₁.ctorThrowS hexec htr (own := own) (cls := cls) (names := names) (ic := ic) hown' hcls hnames h (fun x hx => nomatch hx) hfX hkX hcellA (by rw [hhp, hT]; exact Nat.le_refl _) (msg := .ref sa) rfl
    (g := { method := m, pc := pc + 6, locals := ls, stack := .ref sa :: .ref T.heap.size :: .ref T.heap.size :: rest, locked := none }) rfl hsize rfl rfl (rest := rest) rfl
    (by rw [hb]; exact d6) (by rw [hb]; exact d9) hout hRframes (by simp only [List.map_cons, List.sum_cons, hcat]; omega) hlocks
  obtain ⟨f1, f2⟩ := vx_frame hsame
  rw [hhp] at f1 f2
  have hWs : s.WarmedH U.vm := State.WarmedH.trans hW0 hW
  have hcl : s.vm.findClass cls = some ce.cls := by
    have h9 := hO.cls
    rw [hvm] at h9
    exact h9
  have hall : s.sameButNew ({ U with vm := s.vm } : State) locs mc ms := by
    subst hA
    obtain ⟨e1, e2⟩ := hsame
    rw [State.setFrames_setFrames] at e1
    have h2 : (T.setVm s.vm).sameButNew ({ U with vm := s.vm } : State) [] (0 + 1) (0 + 6) := ⟨e1, e2⟩
    have h3 := X.same.trans h2
    rw [List.append_nil] at h3
    exact h3.mono hc hs
  refine ⟨U, ?_, .threw T.heap.size, hrun, hend, Or.inr ⟨T.heap.size, rfl, cls, ce, locs, hx U hWs.alike f1 (fun q hq => f2 q hq (fun z hz => nomatch hz)), hce, hO.vm, hcl, hWs, hall, hf⟩⟩
  refine st1 _ ?_
  show Steps p.tables e below (T1.setTop { method := m, pc := pc + 3, locals := ls, stack := .ref T.heap.size :: rest, locked := none }) _
  jvm_step X₁.here [X₁.here.top, hexec, d3', Value.category]
  exact X₁.ldcString hexec (own := own) (text := text) (index := is) (a := sa) hown' hstr'.1 hstr'.2
    (g := { method := m, pc := pc + 4, locals := ls, stack := .ref T.heap.size :: .ref T.heap.size :: rest, locked := none }) rfl d4' _ hsteps
/-- 'throw new E("text")', the text by a wide index -/
theorem vx_throwSW {cc : ByteArray} {pc : Nat} (hexec : p.tables.exec = Jvm.exec) (hb : c.code = cc) (hl : l.stackTraces = false) {own cls text : String} {names : List String} {ik is ic mc ms sa : Nat} {A : Nat → Prop}
    (hown : s.vm.findClass own = some m.cls) (hcls : Bundle.fit cls = true) (hnames : ∀ n ∈ names, Bundle.fit n = true)
    (hk : (Cond.classLink own ik cls).before args s = true) (hini : (Cond.initialized cls).before args s = true) (hstr : vk_R own is text sa s) (hat : ∀ w ∈ vx_atS own ic cls names, w.before args s = true)
    (hgood : ∀ w ∈ Cond.classLink own ik cls :: Cond.initialized cls :: vx_atS own ic cls names, vx_ot w = true)
    (hU : vx_Zq Bundle.tN "UNASSIGNED_STACK" Bundle.steD A s s.heap) (hN : vx_Zq Bundle.tN "SUPPRESSED_SENTINEL" Bundle.listD A s s.heap) (hS : va_S A s.heap H locs) (hsize : ls.size = c.maxLocals)
    (d0 : decode cc pc = .ok (.new ik, 3)) (d3 : decode cc (pc + 3) = .ok (.dup, 1)) (d4 : decode cc (pc + 4) = .ok (.ldc_w is, 3)) (d7 : decode cc (pc + 7) = .ok (.invokespecial ic, 3)) (d10 : decode cc (pc + 10) = .ok (.athrow, 1))
    (hout : ∀ x ∈ c.exceptionTable.toList, covers x (pc + 10) = false)
    (hRframes : names.length + 3 < R.frames) (hRlocals : (rest.map fun v => v.category).sum + (13 * (names.length + 1) + 43) ≤ R.locals) (hRcells : cells + 1 ≤ R.cells) (hRslots : slots + 6 ≤ R.slots) (hlocks : meth.locks = false)
    (hx : ∀ t : State, s.vm.Alike t.vm → H.size ≤ t.heap.size → (∀ q : Nat, q < H.size → t.heap[q]? = H[q]?) → XC cls s t)
    (hf : ∀ z ∈ locs, free z.base) (hc : cells + 1 ≤ mc) (hs : slots + 6 ≤ ms) :
    W p l e R s m args below meth c H locs cells slots (vx_MQ below Qc XC args s mc ms free) (F0 m pc ls rest) := by
  intro T hT X
  have htr : e.platform.stackTraces = false := (show e.platform.stackTraces = l.stackTraces by rw [X.admits.platform]).trans hl
  have Y := vx_rebase X (R' := { frames := R.frames, locals := R.locals, cells := 1, slots := 6 }) (Nat.le_refl _) (Nat.le_refl _) hRcells hRslots
  obtain ⟨s', hA⟩ : ∃ z, z = (T.setVm s.vm).setFrames (.invoking m args :: below) := ⟨_, rfl⟩
  rw [← hA] at Y
  have hvm : s'.vm = s.vm := by rw [hA]; rfl
  have hhp : s'.heap = H := by rw [hA]; exact hT
  have hW0 : s.WarmedH s'.vm := by rw [hvm]; exact State.WarmedH.refl s
  have hat' : ∀ w ∈ vx_atS own ic cls names, w.before args s' = true := fun w hw => vx_ot_at hW0 hvm.symm (hgood w (List.mem_cons_of_mem _ (List.mem_cons_of_mem _ hw))) (hat w hw)
  have hk' : (Cond.classLink own ik cls).before args s' = true := vx_ot_at hW0 hvm.symm (hgood _ List.mem_cons_self) hk
  have hini' : (Cond.initialized cls).before args s' = true := vx_ot_at hW0 hvm.symm (hgood _ (List.mem_cons_of_mem _ List.mem_cons_self)) hini
  have hU' : vx_Zq Bundle.tN "UNASSIGNED_STACK" Bundle.steD A s' s'.heap := by rw [hhp]; exact vx_Zq.moved hW0.alike (hU.kept hS.2.1)
  have hN' : vx_Zq Bundle.tN "SUPPRESSED_SENTINEL" Bundle.listD A s' s'.heap := by rw [hhp]; exact vx_Zq.moved hW0.alike (hN.kept hS.2.1)
  have h : ∀ w ∈ Bundle.ownAtoms own ic cls names, w.before args s' = true := vx_own hat' (vx_isRefq hU'.1) (vx_isRefq hN'.1) hU'.2.word hN'.2.word
  have hown' : s'.vm.findClass own = some m.cls := by rw [hvm]; exact hown
  have hins : (Cond.instantiable cls 6).before args s' = true := h _ (by simp [Bundle.ownAtoms])
  obtain ⟨vm₁, cX, kX, hfX, hkX, -, -, X₁, st1⟩ := Y.newCold hexec (own := own) (C := cls) (index := ik) (n := 6) hown' hk' hins hini'
    (g := F0 m pc ls rest) rfl (by rw [hb]; exact d0) (Nat.le_refl _) (Nat.le_refl _)
  generalize hT1 : (T.setVm vm₁).pushCell { cls := cX, slots := kX.instanceTypes.map defaultValue, vm := .none } = T1 at X₁ st1
  have hcat : (Value.ref T.heap.size).category = 1 := rfl
  have hcellA : T1.heap[T.heap.size]? = some (freshCell cX kX) := by rw [← hT1]; exact State.heap_pushCell_size _ _
  have d3' : decode c.code (pc + 3) = .ok (.dup, 1) := by rw [hb]; exact d3
  have d4' : decode c.code (pc + 4) = .ok (.ldc_w is, 3) := by rw [hb]; exact d4
  have hstr' : vk_R own is text sa s' := vk_R.warm hW0 hstr
  obtain ⟨U, hsteps, hrun, hend, hW, hsame, ce, hce, hO⟩ := X₁.ctorThrowS hexec htr (own := own) (cls := cls) (names := names) (ic := ic) hown' hcls hnames h (fun x hx => nomatch hx) hfX hkX hcellA (by rw [hhp, hT]; exact Nat.le_refl _) (msg := .ref sa) rfl
    (g := { method := m, pc := pc + 7, locals := ls, stack := .ref sa :: .ref T.heap.size :: .ref T.heap.size :: rest, locked := none }) rfl hsize rfl rfl (rest := rest) rfl
    (by rw [hb]; exact d7) (by rw [hb]; exact d10) hout hRframes (by simp only [List.map_cons, List.sum_cons, hcat]; omega) hlocks
  obtain ⟨f1, f2⟩ := vx_frame hsame
  rw [hhp] at f1 f2
  have hWs : s.WarmedH U.vm := State.WarmedH.trans hW0 hW
  have hcl : s.vm.findClass cls = some ce.cls := by
    have h9 := hO.cls
    rw [hvm] at h9
    exact h9
  have hall : s.sameButNew ({ U with vm := s.vm } : State) locs mc ms := by
    subst hA
    obtain ⟨e1, e2⟩ := hsame
    rw [State.setFrames_setFrames] at e1
    have h2 : (T.setVm s.vm).sameButNew ({ U with vm := s.vm } : State) [] (0 + 1) (0 + 6) := ⟨e1, e2⟩
    have h3 := X.same.trans h2
    rw [List.append_nil] at h3
    exact h3.mono hc hs
  refine ⟨U, ?_, .threw T.heap.size, hrun, hend, Or.inr ⟨T.heap.size, rfl, cls, ce, locs, hx U hWs.alike f1 (fun q hq => f2 q hq (fun z hz => nomatch hz)), hce, hO.vm, hcl, hWs, hall, hf⟩⟩
  refine st1 _ ?_
  show Steps p.tables e below (T1.setTop { method := m, pc := pc + 3, locals := ls, stack := .ref T.heap.size :: rest, locked := none }) _
  jvm_step X₁.here [X₁.here.top, hexec, d3', Value.category]
  exact X₁.ldcStringW hexec (own := own) (text := text) (index := is) (a := sa) hown' hstr'.1 hstr'.2
    (g := { method := m, pc := pc + 4, locals := ls, stack := .ref T.heap.size :: .ref T.heap.size :: rest, locked := none }) rfl d4' _ hsteps
end Ends
section Bodies
variable {l : Launch}
theorem vx_ofW {y : MethodName} {ws ws' : List Cond} {rm : Room} {Pc : Array Value → State → Prop} {Qc : Array Value → State → Outcome → State → Prop} {XC : String → State → State → Prop} {mc ms : Nat} {free : Addr → Prop} {cc : ByteArray} {maxL : Nat} {ret : Option FieldType}
    (hy : plainName y.cls = true) (hw : ws = Cond.code y cc maxL ret :: ws')
    (body : ∀ p e s m args below meth c s₁, BodyLoose p l y (headSpec ws rm) cc maxL ret e s m args below meth c s₁ → c.maxLocals = maxL → (∀ x ∈ c.exceptionTable.toList, False) → Pc args s →
      W p l e (headSpec ws rm).room s m args below meth c s.heap [] 0 0 (vx_MQ below Qc XC args s mc ms free) (entryFrame m args maxL)) : vx_Met l y ws rm Pc Qc XC mc ms free := by
  refine MetFree.of_bodyS (code := cc) (maxLocals := maxL) (ret := ret) hy ?_ ?_
  · intro args s m h hn
    obtain ⟨meth, c, h1, h2, h3, h4, h5, h6, -, -⟩ := Cond.code_spec hn (atoms_spec (ws := ws) h _ (by rw [hw]; exact List.mem_cons_self))
    exact ⟨meth, c, h1, h2, h3, h4, h5, h6⟩
  · intro p e s m args below meth c s₁ B hml hP _
    have hh0 : s₁.heap = s.heap := by rw [B.state]; rfl
    have ht : ∀ x ∈ c.exceptionTable.toList, False := by
      obtain ⟨meth9, c9, h1, h2, -, -, -, -, h7, -⟩ := Cond.code_spec B.named (atoms_spec (ws := ws) B.pre _ (by rw [hw]; exact List.mem_cons_self))
      cases Option.some.inj (h1.symm.trans B.method)
      cases Option.some.inj (h2.symm.trans (Stand.of_body B).code)
      intro x hx
      rw [Array.isEmpty_iff.mp h7] at hx
      cases hx
    obtain ⟨t, a1, o, b1, b2, b3⟩ := body p e s m args below meth c s₁ B hml ht hP s₁ hh0 (Stand.of_body B)
    exact ⟨t, o, a1, b1, b2, b3⟩
/-- the table of a body with handlers -/
theorem vx_table {p : Program} {x y : MethodName} {S : Spec} {cc bytes : ByteArray} {maxL maxL' : Nat} {ret ret' : Option FieldType} {e : Env} {s s₁ : State} {m : MethodId} {args : Array Value} {below : List Frame} {meth : Method} {c : Code} {hh : List (Nat × Nat × Nat × Nat)}
    (B : BodyLoose p l y S cc maxL ret e s m args below meth c s₁) (h : (Cond.codeWith y bytes maxL' ret' hh).before args s = true) : c.exceptionTable.toList = tableOf hh := by
  obtain ⟨m9, meth9, c9, hn9, h1, h2, -, -, h6, -⟩ := Cond.codeWith_spec h
  cases Option.some.inj (hn9.symm.trans B.named)
  cases Option.some.inj (h1.symm.trans B.method)
  cases Option.some.inj (h2.symm.trans (Stand.of_body B).code)
  rw [← h6, table_eq]
end Bodies
end VXA
/-! ===== END ===== -/
/-! ===== BEGIN a static call of a method with an exception table ===== -/
section VXS
variable {p : Program} {l : Launch} {e : Env} {R : Room} {s : State} {m : MethodId} {args : Array Value} {below : List Frame} {meth : Method} {c : Code} {T : State} {H : Heap} {locs : List Loc} {cells slots : Nat}
abbrev vx_CSW (R : Room) (s : State) (args : Array Value) (own : String) (index : Nat) (y : MethodName) (bytes : ByteArray) (maxL : Nat) (ret : Option FieldType) (hh : List (Nat × Nat × Nat × Nat)) (ws : List Cond) (rm : Room) (mc ms n : Nat) : Prop :=
  (rm.cells = mc ∧ rm.slots = ms ∧ rm.frames + 1 ≤ R.frames ∧ 8 + (maxL + 11) + rm.locals ≤ R.locals ∧ (∀ w ∈ ws, ∀ (a' : Array Value) (U : State), s.WarmedH U.vm → w.before a' U = true) ∧ Cond.codeWith y bytes maxL ret hh ∈ ws) ∧
  (Cond.codeWith y bytes maxL ret hh).before args s = true ∧ (Cond.initialized y.cls).before args s = true ∧ (y.cls ≠ "java/lang/invoke/MethodHandle" ∧ y.cls ≠ "java/lang/invoke/VarHandle") ∧
  (∀ sig, parseMethodDescriptor y.desc = some sig → n = sig.parameters.length) ∧ (Cond.methodLink own index y).before args s = true ∧ (Cond.static y).before args s = true
theorem vx_cwSW {own : String} {index maxL mc ms : Nat} {y : MethodName} {bytes : ByteArray} {ret : Option FieldType} {hh : List (Nat × Nat × Nat × Nat)} {Ts ws ws' : List Cond} {rm : Room} (n : Nat) (ht : ∀ w ∈ Ts, w.before args s = true) (hT : GoodIn Ts (va_wsS own index y ws)) (hw : ws = Cond.codeWith y bytes maxL ret hh :: ws') (hrc : rm.cells = mc) (hrs : rm.slots = ms)
    (hd : y.cls ≠ "java/lang/invoke/MethodHandle" ∧ y.cls ≠ "java/lang/invoke/VarHandle" ∧ (parseMethodDescriptor y.desc).map (fun d => d.parameters.length) = some n) (hR : rm.frames + 1 ≤ R.frames ∧ 8 + (maxL + 11) + rm.locals ≤ R.locals) :
    vx_CSW R s args own index y bytes maxL ret hh ws rm mc ms n := by
  have ok : ∀ w ∈ va_wsS own index y ws, w.before args s = true := fun w h => ht w (hT w h).1
  have hG : GoodIn Ts ws := fun w h => hT w (by unfold va_wsS; exact List.mem_append_right _ h)
  have hc : Cond.codeWith y bytes maxL ret hh ∈ ws := by rw [hw]; exact List.mem_cons_self
  refine ⟨⟨hrc, hrs, hR.1, hR.2, pay_in ht hG, hc⟩, ht _ (hG _ hc).1, ok _ (by simp [va_wsS]), ⟨hd.1, hd.2.1⟩, fun sig h => ?_, ok _ (by simp [va_wsS]), ok _ (by simp [va_wsS])⟩
  have h2 := hd.2.2
  rw [h] at h2
  exact (Option.some.inj h2).symm
theorem vx_callSW (X : Stand p l e R s m args below meth c T locs cells slots) (hexec : p.tables.exec = Jvm.exec) {own : String} {index : Nat} {y : MethodName} {bytes : ByteArray} {maxL : Nat} {ret : Option FieldType} {hh : List (Nat × Nat × Nat × Nat)}
    (hown : s.vm.findClass own = some m.cls) (hlink : (Cond.methodLink own index y).before args s = true) (hstat : (Cond.static y).before args s = true) (hinit : (Cond.initialized y.cls).before args s = true)
    (hcode : (Cond.codeWith y bytes maxL ret hh).before args s = true) (hy : y.cls ≠ "java/lang/invoke/MethodHandle" ∧ y.cls ≠ "java/lang/invoke/VarHandle")
    {W9 : Nat} {Pre : Pt → Array Value → Prop} {Post : Pt → Array Value → Option Value → Pt → Prop} (hK : Back l R p e below s args y 3 W9 Pre Post)
    {g : JFrame} (hg : g.method = m) (hsize : g.locals.size = c.maxLocals) {argsL rest : List Value} (hlen : ∀ sig, parseMethodDescriptor y.desc = some sig → argsL.length = sig.parameters.length)
    (hstack : g.stack = argsL.reverse ++ rest) (hW : 2 * g.monitorRoom + (rest.map fun v => v.category).sum ≤ W9) (hdg : decode c.code g.pc = .ok (.invokestatic index, 3))
    (hpre : ∀ vm₁, s.WarmedH vm₁ → Pre ⟨T.setVm vm₁, locs, cells, slots⟩ argsL.toArray) :
    ∃ (v : Option Value) (vm₁ : Vm) (B : Pt), s.WarmedH vm₁ ∧ Stand p l e R s m args below meth c B.U B.locs B.cells B.slots ∧ Post ⟨T.setVm vm₁, locs, cells, slots⟩ argsL.toArray v B ∧
      ∀ target, Steps p.tables e below (B.U.setTop { g with pc := g.pc + 3, stack := v.toList ++ rest }) target → Steps p.tables e below (T.setTop g) target := by
  obtain ⟨mk, methM, cM, hnamed, hmethM, -, -, -, -, -, -, hsigM⟩ := Cond.codeWith_spec hcode
  have hstatic : methM.isStatic = true := Cond.static_spec hnamed hmethM hstat
  obtain ⟨kP, hkP, -⟩ := className_of_methodNamed hnamed
  have hinitP : kP.init = .initialized := Cond.initialized_spec (findClass_of_methodNamed hnamed) hkP hinit
  obtain ⟨vm₁, X₁, hstep₁⟩ := X.invokestatic hexec hown hlink hnamed hmethM hstatic hkP hinitP hy (g := g) hg (argsL := argsL) (rest := rest) (hlen _ hsigM) hstack hdg
  obtain ⟨v, B, X', hpost, hsteps⟩ := hK m meth c ⟨T.setVm vm₁, locs, cells, slots⟩ { g with stack := rest } (.invokestatic index) mk argsL.toArray X₁ hg hsize hdg hW (X₁.named hnamed) (hpre vm₁ X₁.warmed)
  exact ⟨v, vm₁, B, X₁.warmed, X', hpost, fun target h => hstep₁ _ fun acts => by rw [doInvoke_state]; exact hsteps.trans h⟩
theorem vx_runSW {y : MethodName} {bytes cc : ByteArray} {maxL nL mc ms n index : Nat} {ret : Option FieldType} {hh : List (Nat × Nat × Nat × Nat)} {ws : List Cond} {rm : Room} {Pc : Array Value → State → Prop} {Qc : Array Value → State → Outcome → State → Prop} {free : Addr → Prop} {Ts : List Cond} {own : String} {As rest : List Value} {g : JFrame}
    (S : CallFix p m c cc nL s args Ts own) (hM : Met l y ws rm Pc Qc mc ms free) (cw : vx_CSW R s args own index y bytes maxL ret hh ws rm mc ms n) (hp : PreS s H Pc As)
    (hg : g.method = m) (hn : As.length = n) (hsize : g.locals.size = nL) (hstack : g.stack = As.reverse ++ rest) (hW : 2 * g.monitorRoom + (rest.map fun v => v.category).sum ≤ 8) (hdg : decode cc g.pc = .ok (.invokestatic index, 3)) (hf : cells + mc ≤ R.cells ∧ slots + ms ≤ R.slots) :
    va_Run p l e R s m args below meth c H locs cells slots mc ms g rest (Qc As.toArray) (free) := by
  obtain ⟨⟨hrc, hrs, hfr, hlo, hws, hcw⟩, hcode, hini, hy, hlen, hl, hstt⟩ := cw
  have hK : Back l R p e below s args y 3 8 (PreOf R mc ms Pc) (PostOf Qc mc ms free) := va_backW (hh := hh) (bytes := bytes) (maxL := maxL) (ret := ret) hM hp.1 hrc hrs hfr hlo hws hcw (fun a' U hW => word_at hW (Or.inl (by first | rfl | simp [Cond.onTables, Cond.keeps, Cond.steady])) hini)
  obtain ⟨hx, hb, hml, ho, -⟩ := S
  intro T hT X
  obtain ⟨v, vm₁, ⟨U', l2, c2, s2⟩, hW₁, X', ⟨g', mk, t, L, e1, e2, hq, h1, hL, h2, h3⟩, st⟩ := vx_callSW X hx (hh := hh) (bytes := bytes) (maxL := maxL) (ret := ret) ho hl hstt hini hcode hy hK hg (hsize.trans hml.symm) (argsL := As) (rest := rest) (fun sig h => hn.trans (hlen sig h)) hstack hW (by rw [hb]; exact hdg)
    (fun vm₁ hW₁ => ⟨hf.1, hf.2, hp.2 (T.setVm vm₁) hT hW₁⟩)
  dsimp only [Pt.U, Pt.locs, Pt.cells, Pt.slots] at X' e1 e2 h1 h2 h3 st
  subst h1; subst h2; subst h3
  exact ⟨v, (T.setVm vm₁).calling g' mk As.toArray, t, U', L, hT, X', hL, e1, e2, hq, st⟩
/-- not caught here, past rows that name other classes: it goes on to the caller -/
theorem vx_outP {p : Program} {l : Launch} {e : Env} {R : Room} {s : State} {m : MethodId} {args : Array Value} {below : List Frame} {meth : Method} {c : Code} {H : Heap} {locs : List Loc} {cells slots : Nat} {free : Addr → Prop} {ls : Array Slot} {rest : List Value} {Qc : Array Value → State → Outcome → State → Prop} {XC : String → State → State → Prop}
    {pc : Nat} {own E : String} {ce : Cell} {q : Addr} {mc ms : Nat} (hown : s.vm.findClass own = some m.cls) (hlocks : meth.locks = false)
    (hpass : ∀ z ∈ c.exceptionTable.toList, covers z pc = false ∨ (z.catchType ≠ 0 ∧ ∃ nm : String, (Cond.classLink own z.catchType nm).before args s = true ∧ va_Nc E nm s)) (hcell : H[q]? = some ce) (hv : ce.vm = .none) (hcl : s.vm.findClass E = some ce.cls)
    (hx : ∀ t : State, t.heap = H → s.vm.Alike t.vm → XC E s t) (hf : ∀ z ∈ locs, free z.base) (hc : cells ≤ mc) (hs : slots ≤ ms) :
    vx_W p l e R s m args below meth c H locs cells slots (vx_MQ below Qc XC args s mc ms free) (F0 m pc ls rest) q := by
  intro T hT X
  have hpl : e.platform.magicAccessors = ({} : Platform).magicAccessors := by rw [X.admits.platform]
  obtain ⟨vm', hW', X', st⟩ := X.outThrough hlocks q (g := F0 m pc ls rest) rfl rfl rfl (cell := ce) (by rw [hT]; exact hcell) (by rw [hv]; rfl)
    (by obtain ⟨k9, h9, -⟩ := Vm.findClass_spec hcl; exact ⟨k9, h9⟩) (fun z hz => by
      rcases hpass z hz with h | ⟨hz0, nm, hl1, hn1⟩
      · exact Or.inl h
      · obtain ⟨c6, hc6, hcl6⟩ := Cond.classLink_spec hown hl1 e.platform hpl
        obtain ⟨a8, b8, h1, h2, h3⟩ := hn1
        cases Option.some.inj (h1.symm.trans hcl)
        cases Option.some.inj (h2.symm.trans hc6)
        exact Or.inr ⟨hz0, _, hcl6, h3⟩)
  obtain ⟨g₀, hfr⟩ := X'.frames_eq
  have hcell9 : ((T.setVm vm').setFrames (.throwing q :: below)).heap[q]? = some ce := by
    show T.heap[q]? = some ce
    rw [hT]; exact hcell
  have hend : Ended ((T.setVm vm').setFrames (.throwing q :: below)) below (.threw q) := State.frames_setFrames _ (State.cur_lt_of_frames hfr)
  refine ⟨(T.setVm vm').setFrames (.throwing q :: below), ?_, .threw q, X'.here.running, hend, Or.inr ⟨q, rfl, E, ce, locs, hx _ hT (X'.ends _).1.alike, hcell9, hv, hcl, (X'.ends _).1, (X'.ends _).2.mono hc hs, hf⟩⟩
  rw [X.pushThrowing_eq]
  exact st
/-- a thing of a world lies in the heap -/
theorem vx_lt {D : va_G} {cl : List vw_C} {ws : va_W} {H1 : Heap} (h : va_P D cl ws H1) {k : Nat} {q : Nat × va_E} (hk : ws[k]? = some q) : q.1 < H1.size := (h k q hk).lt
end VXS
/-! ===== END ===== -/
/-! ===== BEGIN methods with a table of their own: called by a name, returning or throwing ===== -/
section VXH
/-! vx_backW, vx_callVX, vx_callSX, vx_callVW, vx_runVW, vx_runVX, vx_runSX, vx_ofWH follow the same proofs as their sisters above (Free/Laws.lean, Shelf42/LK1.lean); vx_outP calls Shelf42/NT130.lean (outThrough). -/
section
variable {l : Launch} {R : Room} {p : Program} {e : Env} {below : List Frame} {s : State} {sargs : Array Value} {y : MethodName} {len W9 : Nat}
theorem vx_backW {ws : List Cond} {rm : Room} {Pc : Array Value → State → Prop} {Qc : Array Value → State → Outcome → State → Prop} {XC : String → State → State → Prop} {mc ms : Nat} {free : Addr → Prop} {bytes : ByteArray} {maxL : Nat} {ret : Option FieldType} {hh : List (Nat × Nat × Nat × Nat)}
    (hM : vx_Met l y ws rm Pc Qc XC mc ms free) (hblind : FrameBlind Pc) (hrc : rm.cells = mc) (hrs : rm.slots = ms)
    (hframes : rm.frames + 1 ≤ R.frames) (hlocals : W9 + (maxL + 11) + rm.locals ≤ R.locals)
    (hws : ∀ w ∈ ws, ∀ a' U, s.WarmedH U.vm → w.before a' U = true) (hcode : Cond.codeWith y bytes maxL ret hh ∈ ws) (hinit : ∀ a' U, s.WarmedH U.vm → (Cond.initialized y.cls).before a' U = true) :
    vx_Back l R p e below s sargs y len W9 (PreOf R mc ms Pc) (PostOf Qc mc ms free) (vx_Post XC mc ms free) := by
  intro m meth c A g ig mk a X hg hsize hdg hW hn hp
  have h1 : (headSpec ws rm).pre.before a A.U = true := atoms_intro fun w hw => hws w hw _ _ X.warmed
  have h2 : (Cond.codeWith y bytes maxL ret hh).before a A.U = true := hws _ hcode _ _ X.warmed
  have h3 : (Cond.initialized y.cls).before a A.U = true := hinit _ _ X.warmed
  have h4 : A.cells + (headSpec ws rm).room.cells ≤ R.cells := by rw [show (headSpec ws rm).room.cells = mc from hrc]; exact hp.1
  have h5 : A.slots + (headSpec ws rm).room.slots ≤ R.slots := by rw [show (headSpec ws rm).room.slots = ms from hrs]; exact hp.2.1
  have hPc : Pc a (A.U.calling g mk a) := hblind _ _ _ _ hp.2.2
  obtain ⟨U, Ls, c0, s0⟩ := A
  dsimp only [Pt.U, Pt.locs, Pt.cells, Pt.slots] at h1 h2 h3 h4 h5 X hn hPc ⊢
  obtain ⟨m9, methY, cY, hn9, hmY, hcY, -, hlY, -⟩ := Cond.codeWith_spec h2
  cases Option.some.inj (hn9.symm.trans hn)
  obtain ⟨kY, hkY, -⟩ := className_of_methodNamed hn
  have hinitY : kY.init = .initialized := Cond.initialized_spec (findClass_of_methodNamed hn) hkY h3
  have h : At U g.method c below := by rw [hg]; exact X.here
  have hlocals9 : W9 + (maxL + 11) + (headSpec ws rm).room.locals ≤ R.locals := hlocals
  have happ : (headSpec ws rm).appliesLoose y e.platform (U.calling g mk a) = true :=
    Spec.appliesLoose_calling (g := g) h hdg hn hkY hinitY
      (X.room_calling (g := g) (R' := (headSpec ws rm).room) hsize hmY hcY hframes (by rw [hlY]; omega) h4 h5) h1
  obtain ⟨mid, hmid⟩ := h.above
  have hfr : (U.setTop g).frames = (.java g :: mid) ++ below := by rw [State.frames_setTop' g h.top, hmid]; rfl
  obtain ⟨o, s₂, hsteps, -, hend, hq⟩ := Steps.callFree hM p X.admits X.cas X.clock (acts := []) hfr happ hPc trivial
  have hq' : vx_Q Qc XC mc ms free a (U.calling g mk a) o s₂ := hq
  rw [State.frames_setTop' g h.top] at hend
  obtain ⟨g₀, hg0⟩ := Option.isSome_iff_exists.mp h.top
  obtain ⟨r, hr⟩ := State.topJava?_eq_some.mp hg0
  have hr' : (({ U with heap := s₂.heap, slotsUsed := s₂.slotsUsed } : State).setVm s₂.vm).frames = .java g₀ :: r := hr
  rcases hq' with ⟨hqc, L, hfe, hL⟩ | ⟨q, rfl, E, ce, L, hx, hce, hcv, hcl, hW₂, hsm, hL⟩
  · obtain ⟨⟨v, rfl⟩, hW₂, e2, q2, q3, q4, q5, q6⟩ := id hfe
    have e3 : s₂ = ({ (U.calling g mk a).setFrames s₂.frames with heap := s₂.heap, slotsUsed := s₂.slotsUsed } : State).setVm s₂.vm := by
      have : s₂ = ({ s₂ with vm := (U.calling g mk a).vm } : State).setVm s₂.vm := rfl
      rw [e2] at this
      exact this
    obtain ⟨c₂, i₂, len₂, hc₂, hd₂, hf₂⟩ := hend
    have hW' : U.WarmedH s₂.vm := hW₂
    have hcc : c₂ = c := by
      have h1 : s₂.code? g.method = U.code? g.method := by
        rw [State.code?_eq, State.code?_eq, hW'.alike.method?]
      exact Option.some.inj (hc₂.symm.trans (h1.trans h.code))
    subst hcc
    have hlen : len₂ = len := by rw [hdg] at hd₂; cases hd₂; rfl
    subst hlen
    have hs₂ : s₂ = (({ U with heap := s₂.heap, slotsUsed := s₂.slotsUsed } : State).setVm s₂.vm).setTop { g with pc := g.pc + len₂, stack := v.toList ++ g.stack } := by
      refine e3.trans ?_
      rw [hf₂, State.calling_eq h.top, State.setFrames_setFrames, State.setTop_of_frames _ hr', hr]
      rfl
    have hsame : U.sameButNew ({ U with heap := s₂.heap, slotsUsed := s₂.slotsUsed } : State) L mc ms := by
      refine ⟨?_, q2, q3, q4, q5, q6⟩
      obtain ⟨t, ht, -⟩ := State.frames_cons hr
      show ({ U with heap := s₂.heap, slotsUsed := s₂.slotsUsed } : State) = { U.setFrames U.frames with heap := s₂.heap, slotsUsed := s₂.slotsUsed }
      rw [State.setFrames_self ht]
    subst hg
    refine Or.inl ⟨v, ⟨(({ U with heap := s₂.heap, slotsUsed := s₂.slotsUsed } : State).setVm s₂.vm), Ls ++ L, c0 + mc, s0 + ms⟩,
      ⟨X.admits, X.cas, X.clock, X.frames, X.room, X.hears, X.method, X.code, (X.here.setHeapUsed s₂.heap s₂.slotsUsed).setVm hW'.alike, X.tail, State.WarmedH.trans X.warmed hW', X.limits, X.bytes, X.same.trans (hsame.setVm s.vm)⟩,
      ⟨g, mk, s₂, L, rfl, rfl, hqc, rfl, hL, rfl, rfl⟩, ?_⟩
    show Steps p.tables e below _ ((({ U with heap := s₂.heap, slotsUsed := s₂.slotsUsed } : State).setVm s₂.vm).setTop { g with pc := g.pc + len₂, stack := v.toList ++ g.stack })
    rw [← hs₂]
    exact hsteps
  · obtain ⟨e2, q2, q3, q4, q5, q6⟩ := id hsm
    have e3 : s₂ = ({ (U.calling g mk a).setFrames s₂.frames with heap := s₂.heap, slotsUsed := s₂.slotsUsed } : State).setVm s₂.vm := by
      have : s₂ = ({ s₂ with vm := (U.calling g mk a).vm } : State).setVm s₂.vm := rfl
      rw [e2] at this
      exact this
    have hf₂ : s₂.frames = .throwing q :: .java g :: U.frames.tail := hend
    have hW' : U.WarmedH s₂.vm := hW₂
    have hs₂ : s₂ = ((({ U with heap := s₂.heap, slotsUsed := s₂.slotsUsed } : State).setVm s₂.vm).setTop g).pushFrame (.throwing q) := by
      refine e3.trans ?_
      rw [hf₂, State.calling_eq h.top, State.setFrames_setFrames, State.pushFrame, State.frames_setTop _ hr', State.setTop_of_frames _ hr', State.setFrames_setFrames, hr]
      rfl
    have hsame : U.sameButNew ({ U with heap := s₂.heap, slotsUsed := s₂.slotsUsed } : State) L mc ms := by
      refine ⟨?_, q2, q3, q4, q5, q6⟩
      obtain ⟨t, ht, -⟩ := State.frames_cons hr
      show ({ U with heap := s₂.heap, slotsUsed := s₂.slotsUsed } : State) = { U.setFrames U.frames with heap := s₂.heap, slotsUsed := s₂.slotsUsed }
      rw [State.setFrames_self ht]
    subst hg
    refine Or.inr ⟨q, ⟨(({ U with heap := s₂.heap, slotsUsed := s₂.slotsUsed } : State).setVm s₂.vm), Ls ++ L, c0 + mc, s0 + ms⟩,
      ⟨X.admits, X.cas, X.clock, X.frames, X.room, X.hears, X.method, X.code, (X.here.setHeapUsed s₂.heap s₂.slotsUsed).setVm hW'.alike, X.tail, State.WarmedH.trans X.warmed hW', X.limits, X.bytes, X.same.trans (hsame.setVm s.vm)⟩,
      ⟨g, mk, s₂, L, E, ce, rfl, rfl, hx, hce, hcv, hcl, rfl, hL, rfl, rfl⟩, ?_⟩
    show Steps p.tables e below _ (((({ U with heap := s₂.heap, slotsUsed := s₂.slotsUsed } : State).setVm s₂.vm).setTop g).pushFrame (.throwing q))
    rw [← hs₂]
    exact hsteps
end
variable {p : Program} {l : Launch} {e : Env} {R : Room} {s : State} {m : MethodId} {args : Array Value} {below : List Frame} {meth : Method} {c : Code} {T : State} {H : Heap} {locs : List Loc} {cells slots : Nat}
theorem vx_callVX (X : Stand p l e R s m args below meth c T locs cells slots) (hexec : p.tables.exec = Jvm.exec) {own C : String} {index : Nat} {y : MethodName} {bytes : ByteArray} {maxL : Nat} {ret : Option FieldType} {hh : List (Nat × Nat × Nat × Nat)}
    (hown : s.vm.findClass own = some m.cls) (hlink : (Cond.methodLink own index y).before args s = true) (hinst : (Cond.instanceMethod y).before args s = true) (hsel : (Cond.selects C y y).before args s = true)
    (hcode : (Cond.codeWith y bytes maxL ret hh).before args s = true) (hy : y.cls ≠ "java/lang/invoke/MethodHandle" ∧ y.cls ≠ "java/lang/invoke/VarHandle")
    {W9 : Nat} {Pre : Pt → Array Value → Prop} {Post : Pt → Array Value → Option Value → Pt → Prop} {PostX : Pt → Array Value → Addr → Pt → Prop} (hK : vx_Back l R p e below s args y 3 W9 Pre Post PostX)
    {b : Addr} {cellB : Cell} (hcell : T.heap[b]? = some cellB) (hobj : cellB.vm.isStatics = false) (hcls : s.vm.findClass C = some cellB.cls)
    {g : JFrame} (hg : g.method = m) (hsize : g.locals.size = c.maxLocals) {argsL rest : List Value} (hlen : ∀ sig, parseMethodDescriptor y.desc = some sig → argsL.length = sig.parameters.length)
    (hstack : g.stack = argsL.reverse ++ .ref b :: rest) (hW : 2 * g.monitorRoom + (rest.map fun v => v.category).sum ≤ W9) (hdg : decode c.code g.pc = .ok (.invokevirtual index, 3))
    (hpre : ∀ vm₁, s.WarmedH vm₁ → Pre ⟨T.setVm vm₁, locs, cells, slots⟩ (Value.ref b :: argsL).toArray) :
    (∃ (v : Option Value) (vm₁ : Vm) (B : Pt), s.WarmedH vm₁ ∧ Stand p l e R s m args below meth c B.U B.locs B.cells B.slots ∧ Post ⟨T.setVm vm₁, locs, cells, slots⟩ (Value.ref b :: argsL).toArray v B ∧
      ∀ target, Steps p.tables e below (B.U.setTop { g with pc := g.pc + 3, stack := v.toList ++ rest }) target → Steps p.tables e below (T.setTop g) target) ∨
    (∃ (q : Addr) (vm₁ : Vm) (B : Pt), s.WarmedH vm₁ ∧ Stand p l e R s m args below meth c B.U B.locs B.cells B.slots ∧ PostX ⟨T.setVm vm₁, locs, cells, slots⟩ (Value.ref b :: argsL).toArray q B ∧
      Steps p.tables e below (T.setTop g) ((B.U.setTop { g with stack := rest }).pushFrame (.throwing q))) := by
  obtain ⟨mk, methM, hnamed, hmethM, hstM, habM⟩ := Cond.instanceMethod_spec hinst
  obtain ⟨m8, methM', cM, hn8, hmethM', -, -, -, -, -, -, hsigM⟩ := Cond.codeWith_spec hcode
  cases Option.some.inj (hn8.symm.trans hnamed)
  cases hmethM.symm.trans hmethM'
  obtain ⟨c2, r2, m2, q1, q2, q3, q4, kP, hkP, hkPi⟩ := Cond.selects_spec hsel
  cases hcls.symm.trans q1
  cases (State.methodFound?_of_named hnamed hy).symm.trans q2
  cases hnamed.symm.trans q3
  have hselP : selectMethod e.platform s.vm cellB.cls mk = .method mk := by rw [Launch.admits_selectMethod X.admits]; exact q4
  obtain ⟨vm₁, X₁, hstep₁⟩ := X.invokevirtual hexec hown hlink hnamed hmethM hstM hkP hkPi hy (a := b) (cell := cellB) hcell
    (fun z h => by rw [h] at hobj; cases hobj) hselP hmethM habM hkP hkPi (g := g) hg (argsL := argsL) (rest := rest) (hlen _ hsigM) hstack hdg
  rcases hK m meth c ⟨T.setVm vm₁, locs, cells, slots⟩ { g with stack := rest } (.invokevirtual index) mk (Value.ref b :: argsL).toArray X₁ hg hsize hdg hW (X₁.named hnamed) (hpre vm₁ X₁.warmed) with ⟨v, B, X', hpost, hsteps⟩ | ⟨q, B, X', hpost, hsteps⟩
  · exact Or.inl ⟨v, vm₁, B, X₁.warmed, X', hpost, fun target h => hstep₁ _ fun acts => by rw [doInvoke_state]; exact hsteps.trans h⟩
  · exact Or.inr ⟨q, vm₁, B, X₁.warmed, X', hpost, hstep₁ _ fun acts => by rw [doInvoke_state]; exact hsteps⟩
theorem vx_callSX (X : Stand p l e R s m args below meth c T locs cells slots) (hexec : p.tables.exec = Jvm.exec) {own : String} {index : Nat} {y : MethodName} {bytes : ByteArray} {maxL : Nat} {ret : Option FieldType} {hh : List (Nat × Nat × Nat × Nat)}
    (hown : s.vm.findClass own = some m.cls) (hlink : (Cond.methodLink own index y).before args s = true) (hstat : (Cond.static y).before args s = true) (hinit : (Cond.initialized y.cls).before args s = true)
    (hcode : (Cond.codeWith y bytes maxL ret hh).before args s = true) (hy : y.cls ≠ "java/lang/invoke/MethodHandle" ∧ y.cls ≠ "java/lang/invoke/VarHandle")
    {W9 : Nat} {Pre : Pt → Array Value → Prop} {Post : Pt → Array Value → Option Value → Pt → Prop} {PostX : Pt → Array Value → Addr → Pt → Prop} (hK : vx_Back l R p e below s args y 3 W9 Pre Post PostX)
    {g : JFrame} (hg : g.method = m) (hsize : g.locals.size = c.maxLocals) {argsL rest : List Value} (hlen : ∀ sig, parseMethodDescriptor y.desc = some sig → argsL.length = sig.parameters.length)
    (hstack : g.stack = argsL.reverse ++ rest) (hW : 2 * g.monitorRoom + (rest.map fun v => v.category).sum ≤ W9) (hdg : decode c.code g.pc = .ok (.invokestatic index, 3))
    (hpre : ∀ vm₁, s.WarmedH vm₁ → Pre ⟨T.setVm vm₁, locs, cells, slots⟩ argsL.toArray) :
    (∃ (v : Option Value) (vm₁ : Vm) (B : Pt), s.WarmedH vm₁ ∧ Stand p l e R s m args below meth c B.U B.locs B.cells B.slots ∧ Post ⟨T.setVm vm₁, locs, cells, slots⟩ argsL.toArray v B ∧
      ∀ target, Steps p.tables e below (B.U.setTop { g with pc := g.pc + 3, stack := v.toList ++ rest }) target → Steps p.tables e below (T.setTop g) target) ∨
    (∃ (q : Addr) (vm₁ : Vm) (B : Pt), s.WarmedH vm₁ ∧ Stand p l e R s m args below meth c B.U B.locs B.cells B.slots ∧ PostX ⟨T.setVm vm₁, locs, cells, slots⟩ argsL.toArray q B ∧
      Steps p.tables e below (T.setTop g) ((B.U.setTop { g with stack := rest }).pushFrame (.throwing q))) := by
  obtain ⟨mk, methM, cM, hnamed, hmethM, -, -, -, -, -, -, hsigM⟩ := Cond.codeWith_spec hcode
  have hstatic : methM.isStatic = true := Cond.static_spec hnamed hmethM hstat
  obtain ⟨kP, hkP, -⟩ := className_of_methodNamed hnamed
  have hinitP : kP.init = .initialized := Cond.initialized_spec (findClass_of_methodNamed hnamed) hkP hinit
  obtain ⟨vm₁, X₁, hstep₁⟩ := X.invokestatic hexec hown hlink hnamed hmethM hstatic hkP hinitP hy (g := g) hg (argsL := argsL) (rest := rest) (hlen _ hsigM) hstack hdg
  rcases hK m meth c ⟨T.setVm vm₁, locs, cells, slots⟩ { g with stack := rest } (.invokestatic index) mk argsL.toArray X₁ hg hsize hdg hW (X₁.named hnamed) (hpre vm₁ X₁.warmed) with ⟨v, B, X', hpost, hsteps⟩ | ⟨q, B, X', hpost, hsteps⟩
  · exact Or.inl ⟨v, vm₁, B, X₁.warmed, X', hpost, fun target h => hstep₁ _ fun acts => by rw [doInvoke_state]; exact hsteps.trans h⟩
  · exact Or.inr ⟨q, vm₁, B, X₁.warmed, X', hpost, hstep₁ _ fun acts => by rw [doInvoke_state]; exact hsteps⟩
theorem vx_callVW (X : Stand p l e R s m args below meth c T locs cells slots) (hexec : p.tables.exec = Jvm.exec) {own C : String} {index : Nat} {y : MethodName} {bytes : ByteArray} {maxL : Nat} {ret : Option FieldType} {hh : List (Nat × Nat × Nat × Nat)}
    (hown : s.vm.findClass own = some m.cls) (hlink : (Cond.methodLink own index y).before args s = true) (hinst : (Cond.instanceMethod y).before args s = true) (hsel : (Cond.selects C y y).before args s = true)
    (hcode : (Cond.codeWith y bytes maxL ret hh).before args s = true) (hy : y.cls ≠ "java/lang/invoke/MethodHandle" ∧ y.cls ≠ "java/lang/invoke/VarHandle")
    {W9 : Nat} {Pre : Pt → Array Value → Prop} {Post : Pt → Array Value → Option Value → Pt → Prop} (hK : Back l R p e below s args y 3 W9 Pre Post)
    {b : Addr} {cellB : Cell} (hcell : T.heap[b]? = some cellB) (hobj : cellB.vm.isStatics = false) (hcls : s.vm.findClass C = some cellB.cls)
    {g : JFrame} (hg : g.method = m) (hsize : g.locals.size = c.maxLocals) {argsL rest : List Value} (hlen : ∀ sig, parseMethodDescriptor y.desc = some sig → argsL.length = sig.parameters.length)
    (hstack : g.stack = argsL.reverse ++ .ref b :: rest) (hW : 2 * g.monitorRoom + (rest.map fun v => v.category).sum ≤ W9) (hdg : decode c.code g.pc = .ok (.invokevirtual index, 3))
    (hpre : ∀ vm₁, s.WarmedH vm₁ → Pre ⟨T.setVm vm₁, locs, cells, slots⟩ (Value.ref b :: argsL).toArray) :
    ∃ (v : Option Value) (vm₁ : Vm) (B : Pt), s.WarmedH vm₁ ∧ Stand p l e R s m args below meth c B.U B.locs B.cells B.slots ∧ Post ⟨T.setVm vm₁, locs, cells, slots⟩ (Value.ref b :: argsL).toArray v B ∧
      ∀ target, Steps p.tables e below (B.U.setTop { g with pc := g.pc + 3, stack := v.toList ++ rest }) target → Steps p.tables e below (T.setTop g) target := by
  obtain ⟨mk, methM, hnamed, hmethM, hstM, habM⟩ := Cond.instanceMethod_spec hinst
  obtain ⟨m8, methM', cM, hn8, hmethM', -, -, -, -, -, -, hsigM⟩ := Cond.codeWith_spec hcode
  cases Option.some.inj (hn8.symm.trans hnamed)
  cases hmethM.symm.trans hmethM'
  obtain ⟨c2, r2, m2, q1, q2, q3, q4, kP, hkP, hkPi⟩ := Cond.selects_spec hsel
  cases hcls.symm.trans q1
  cases (State.methodFound?_of_named hnamed hy).symm.trans q2
  cases hnamed.symm.trans q3
  have hselP : selectMethod e.platform s.vm cellB.cls mk = .method mk := by rw [Launch.admits_selectMethod X.admits]; exact q4
  obtain ⟨vm₁, X₁, hstep₁⟩ := X.invokevirtual hexec hown hlink hnamed hmethM hstM hkP hkPi hy (a := b) (cell := cellB) hcell
    (fun z h => by rw [h] at hobj; cases hobj) hselP hmethM habM hkP hkPi (g := g) hg (argsL := argsL) (rest := rest) (hlen _ hsigM) hstack hdg
  obtain ⟨v, B, X', hpost, hsteps⟩ := hK m meth c ⟨T.setVm vm₁, locs, cells, slots⟩ { g with stack := rest } (.invokevirtual index) mk (Value.ref b :: argsL).toArray X₁ hg hsize hdg hW (X₁.named hnamed) (hpre vm₁ X₁.warmed)
  exact ⟨v, vm₁, B, X₁.warmed, X', hpost, fun target h => hstep₁ _ fun acts => by rw [doInvoke_state]; exact hsteps.trans h⟩
abbrev vx_CVW (R : Room) (s : State) (args : Array Value) (own C : String) (index : Nat) (y : MethodName) (bytes : ByteArray) (maxL : Nat) (ret : Option FieldType) (hh : List (Nat × Nat × Nat × Nat)) (ws : List Cond) (rm : Room) (mc ms n : Nat) : Prop :=
  (rm.cells = mc ∧ rm.slots = ms ∧ rm.frames + 1 ≤ R.frames ∧ 8 + (maxL + 11) + rm.locals ≤ R.locals ∧ (∀ w ∈ ws, ∀ (a' : Array Value) (U : State), s.WarmedH U.vm → w.before a' U = true) ∧ Cond.codeWith y bytes maxL ret hh ∈ ws) ∧
  (Cond.codeWith y bytes maxL ret hh).before args s = true ∧ (Cond.initialized y.cls).before args s = true ∧ (y.cls ≠ "java/lang/invoke/MethodHandle" ∧ y.cls ≠ "java/lang/invoke/VarHandle") ∧
  (∀ sig, parseMethodDescriptor y.desc = some sig → n = sig.parameters.length) ∧ (Cond.methodLink own index y).before args s = true ∧ (Cond.instanceMethod y).before args s = true ∧ (Cond.selects C y y).before args s = true
theorem vx_cwVW {own C : String} {index maxL mc ms : Nat} {y : MethodName} {bytes : ByteArray} {ret : Option FieldType} {hh : List (Nat × Nat × Nat × Nat)} {Ts ws ws' : List Cond} {rm : Room} (n : Nat) (ht : ∀ w ∈ Ts, w.before args s = true) (hT : GoodIn Ts (wsV own index C y ws)) (hw : ws = Cond.codeWith y bytes maxL ret hh :: ws') (hrc : rm.cells = mc) (hrs : rm.slots = ms)
    (hd : y.cls = C ∧ y.cls ≠ "java/lang/invoke/MethodHandle" ∧ y.cls ≠ "java/lang/invoke/VarHandle" ∧ (parseMethodDescriptor y.desc).map (fun d => d.parameters.length) = some n) (hR : rm.frames + 1 ≤ R.frames ∧ 8 + (maxL + 11) + rm.locals ≤ R.locals) :
    vx_CVW R s args own C index y bytes maxL ret hh ws rm mc ms n := by
  obtain ⟨hC, hd⟩ := hd
  subst hC
  have ok : ∀ w ∈ wsV own index y.cls y ws, w.before args s = true := fun w h => ht w (hT w h).1
  have hG : GoodIn Ts ws := fun w h => hT w (by unfold wsV; exact List.mem_append_right _ h)
  have hc : Cond.codeWith y bytes maxL ret hh ∈ ws := by rw [hw]; exact List.mem_cons_self
  refine ⟨⟨hrc, hrs, hR.1, hR.2, pay_in ht hG, hc⟩, ht _ (hG _ hc).1, ok _ (by simp [wsV]), ⟨hd.1, hd.2.1⟩, fun sig h => ?_, ok _ (by simp [wsV]), ok _ (by simp [wsV]), ok _ (by simp [wsV])⟩
  have h2 := hd.2.2
  rw [h] at h2
  exact (Option.some.inj h2).symm
theorem vx_runVW {y : MethodName} {bytes cc : ByteArray} {maxL nL mc ms n index : Nat} {ret : Option FieldType} {hh : List (Nat × Nat × Nat × Nat)} {ws : List Cond} {rm : Room} {Pc : Array Value → State → Prop} {Qc : Array Value → State → Outcome → State → Prop} {free : Addr → Prop} {Ts : List Cond} {own C : String} {b : Addr} {As rest : List Value} {g : JFrame}
    (S : CallFix p m c cc nL s args Ts own) (hM : Met l y ws rm Pc Qc mc ms free) (cw : vx_CVW R s args own C index y bytes maxL ret hh ws rm mc ms n) (hp : PreV s H C b Pc As)
    (hg : g.method = m) (hn : As.length = n) (hsize : g.locals.size = nL) (hstack : g.stack = As.reverse ++ .ref b :: rest) (hW : 2 * g.monitorRoom + (rest.map fun v => v.category).sum ≤ 8) (hdg : decode cc g.pc = .ok (.invokevirtual index, 3)) (hf : cells + mc ≤ R.cells ∧ slots + ms ≤ R.slots) :
    va_Run p l e R s m args below meth c H locs cells slots mc ms g rest (Qc (Value.ref b :: As).toArray) free := by
  obtain ⟨⟨hrc, hrs, hfr, hlo, hws, hcw⟩, hcode, hini, hy, hlen, hl, hin, hse⟩ := cw
  have hK : Back l R p e below s args y 3 8 (PreOf R mc ms Pc) (PostOf Qc mc ms free) := va_backW (hh := hh) (bytes := bytes) (maxL := maxL) (ret := ret) hM hp.1 hrc hrs hfr hlo hws hcw (fun a' U hW => word_at hW (Or.inl (by first | rfl | simp [Cond.onTables, Cond.keeps, Cond.steady])) hini)
  obtain ⟨hx, hb, hml, ho, -⟩ := S
  obtain ⟨-, ⟨cellB, hcB, hoB, hclB⟩, hPc⟩ := hp
  intro T hT X
  obtain ⟨v, vm₁, ⟨U', l2, c2, s2⟩, hW₁, X', ⟨g', mk, t, L, e1, e2, hq, h1, hL, h2, h3⟩, st⟩ := vx_callVW X hx (C := C) (hh := hh) (bytes := bytes) (maxL := maxL) (ret := ret) ho hl hin hse hcode hy hK (by rw [hT]; exact hcB) hoB hclB hg (hsize.trans hml.symm) (argsL := As) (rest := rest) (fun sig h => hn.trans (hlen sig h)) hstack hW (by rw [hb]; exact hdg)
    (fun vm₁ hW₁ => ⟨hf.1, hf.2, hPc (T.setVm vm₁) hT hW₁⟩)
  dsimp only [Pt.U, Pt.locs, Pt.cells, Pt.slots] at X' e1 e2 h1 h2 h3 st
  subst h1; subst h2; subst h3
  exact ⟨v, (T.setVm vm₁).calling g' mk (Value.ref b :: As).toArray, t, U', L, hT, X', hL, e1, e2, hq, st⟩
section
variable {y : MethodName} {bytes cc : ByteArray} {maxL nL mc ms n index : Nat} {ret : Option FieldType} {ws : List Cond} {rm : Room} {Pc : Array Value → State → Prop} {Qc : Array Value → State → Outcome → State → Prop} {XC : String → State → State → Prop} {free : Addr → Prop} {Ts : List Cond} {own C : String} {b : Addr} {As rest : List Value} {g : JFrame}
theorem vx_runVX {hh : List (Nat × Nat × Nat × Nat)} (S : CallFix p m c cc nL s args Ts own) (hM : vx_Met l y ws rm Pc Qc XC mc ms free) (cw : vx_CVW R s args own C index y bytes maxL ret hh ws rm mc ms n) (hp : PreV s H C b Pc As)
    (hg : g.method = m) (hn : As.length = n) (hsize : g.locals.size = nL) (hstack : g.stack = As.reverse ++ .ref b :: rest) (hW : 2 * g.monitorRoom + (rest.map fun v => v.category).sum ≤ 8) (hdg : decode cc g.pc = .ok (.invokevirtual index, 3)) (hf : cells + mc ≤ R.cells ∧ slots + ms ≤ R.slots) :
    vx_Run p l e R s m args below meth c H locs cells slots mc ms g rest (Qc (Value.ref b :: As).toArray) XC free := by
  obtain ⟨⟨hrc, hrs, hfr, hlo, hws, hcw⟩, hcode, hini, hy, hlen, hl, hin, hse⟩ := cw
  have hK : vx_Back l R p e below s args y 3 8 (PreOf R mc ms Pc) (PostOf Qc mc ms free) (vx_Post XC mc ms free) := vx_backW (hh := hh) (bytes := bytes) (maxL := maxL) (ret := ret) hM hp.1 hrc hrs hfr hlo hws hcw (fun a' U hW => word_at hW (Or.inl (by first | rfl | simp [Cond.onTables, Cond.keeps, Cond.steady])) hini)
  obtain ⟨hx, hb, hml, ho, -⟩ := S
  obtain ⟨-, ⟨cellB, hcB, hoB, hclB⟩, hPc⟩ := hp
  intro T hT X
  rcases vx_callVX X hx (C := C) (hh := hh) (bytes := bytes) (maxL := maxL) (ret := ret) ho hl hin hse hcode hy hK (by rw [hT]; exact hcB) hoB hclB hg (hsize.trans hml.symm) (argsL := As) (rest := rest) (fun sig h => hn.trans (hlen sig h)) hstack hW (by rw [hb]; exact hdg)
    (fun vm₁ hW₁ => ⟨hf.1, hf.2, hPc (T.setVm vm₁) hT hW₁⟩) with ⟨v, vm₁, ⟨U', l2, c2, s2⟩, hW₁, X', ⟨g', mk, t, L, e1, e2, hq, h1, hL, h2, h3⟩, st⟩ | ⟨q, vm₁, ⟨U', l2, c2, s2⟩, hW₁, X', ⟨g', mk, t, L, E, ce, e1, e2, hq, hce, hcv, hcl, h1, hL, h2, h3⟩, st⟩
  · dsimp only [Pt.U, Pt.locs, Pt.cells, Pt.slots] at X' e1 e2 h1 h2 h3 st
    subst h1; subst h2; subst h3
    exact Or.inl ⟨v, (T.setVm vm₁).calling g' mk (Value.ref b :: As).toArray, t, U', L, hT, X', hL, e1, e2, hq, st⟩
  · dsimp only [Pt.U, Pt.locs, Pt.cells, Pt.slots] at X' e1 e2 h1 h2 h3 st hcl
    subst h1; subst h2; subst h3
    exact Or.inr ⟨q, (T.setVm vm₁).calling g' mk (Value.ref b :: As).toArray, t, U', L, E, ce, hT, X', hL, e1, e2, hq, hce, hcv, vx_cls hW₁ hcl, st⟩
theorem vx_runSX {hh : List (Nat × Nat × Nat × Nat)} (S : CallFix p m c cc nL s args Ts own) (hM : vx_Met l y ws rm Pc Qc XC mc ms free) (cw : vx_CSW R s args own index y bytes maxL ret hh ws rm mc ms n) (hp : PreS s H Pc As)
    (hg : g.method = m) (hn : As.length = n) (hsize : g.locals.size = nL) (hstack : g.stack = As.reverse ++ rest) (hW : 2 * g.monitorRoom + (rest.map fun v => v.category).sum ≤ 8) (hdg : decode cc g.pc = .ok (.invokestatic index, 3)) (hf : cells + mc ≤ R.cells ∧ slots + ms ≤ R.slots) :
    vx_Run p l e R s m args below meth c H locs cells slots mc ms g rest (Qc As.toArray) XC free := by
  obtain ⟨⟨hrc, hrs, hfr, hlo, hws, hcw⟩, hcode, hini, hy, hlen, hl, hstt⟩ := cw
  have hK : vx_Back l R p e below s args y 3 8 (PreOf R mc ms Pc) (PostOf Qc mc ms free) (vx_Post XC mc ms free) := vx_backW (hh := hh) (bytes := bytes) (maxL := maxL) (ret := ret) hM hp.1 hrc hrs hfr hlo hws hcw (fun a' U hW => word_at hW (Or.inl (by first | rfl | simp [Cond.onTables, Cond.keeps, Cond.steady])) hini)
  obtain ⟨hx, hb, hml, ho, -⟩ := S
  intro T hT X
  rcases vx_callSX X hx (hh := hh) (bytes := bytes) (maxL := maxL) (ret := ret) ho hl hstt hini hcode hy hK hg (hsize.trans hml.symm) (argsL := As) (rest := rest) (fun sig h => hn.trans (hlen sig h)) hstack hW (by rw [hb]; exact hdg)
    (fun vm₁ hW₁ => ⟨hf.1, hf.2, hp.2 (T.setVm vm₁) hT hW₁⟩) with ⟨v, vm₁, ⟨U', l2, c2, s2⟩, hW₁, X', ⟨g', mk, t, L, e1, e2, hq, h1, hL, h2, h3⟩, st⟩ | ⟨q, vm₁, ⟨U', l2, c2, s2⟩, hW₁, X', ⟨g', mk, t, L, E, ce, e1, e2, hq, hce, hcv, hcl, h1, hL, h2, h3⟩, st⟩
  · dsimp only [Pt.U, Pt.locs, Pt.cells, Pt.slots] at X' e1 e2 h1 h2 h3 st
    subst h1; subst h2; subst h3
    exact Or.inl ⟨v, (T.setVm vm₁).calling g' mk As.toArray, t, U', L, hT, X', hL, e1, e2, hq, st⟩
  · dsimp only [Pt.U, Pt.locs, Pt.cells, Pt.slots] at X' e1 e2 h1 h2 h3 st hcl
    subst h1; subst h2; subst h3
    exact Or.inr ⟨q, (T.setVm vm₁).calling g' mk As.toArray, t, U', L, E, ce, hT, X', hL, e1, e2, hq, hce, hcv, vx_cls hW₁ hcl, st⟩
end
end VXH
theorem vx_ofWH {l : Launch} {y : MethodName} {ws ws' : List Cond} {rm : Room} {Pc : Array Value → State → Prop} {Qc : Array Value → State → Outcome → State → Prop} {XC : String → State → State → Prop} {mc ms : Nat} {free : Addr → Prop} {cc : ByteArray} {maxL : Nat} {ret : Option FieldType} {hh : List (Nat × Nat × Nat × Nat)}
    (hy : plainName y.cls = true) (hw : ws = Cond.codeWith y cc maxL ret hh :: ws')
    (body : ∀ p e s m args below meth c s₁, BodyLoose p l y (headSpec ws rm) cc maxL ret e s m args below meth c s₁ → c.maxLocals = maxL → Pc args s →
      W p l e (headSpec ws rm).room s m args below meth c s.heap [] 0 0 (vx_MQ below Qc XC args s mc ms free) (entryFrame m args maxL)) : vx_Met l y ws rm Pc Qc XC mc ms free := by
  refine MetFree.of_bodyS (code := cc) (maxLocals := maxL) (ret := ret) hy ?_ ?_
  · intro args s m h hn
    obtain ⟨m9, meth, c, hn9, h1, h2, h3, h4, -, h5, h6, -⟩ := Cond.codeWith_spec (atoms_spec (ws := ws) h _ (by rw [hw]; exact List.mem_cons_self))
    cases hn.symm.trans hn9
    exact ⟨meth, c, h1, h2, h3, h4, h5, h6⟩
  · intro p e s m args below meth c s₁ B hml hP _
    have hh0 : s₁.heap = s.heap := by rw [B.state]; rfl
    obtain ⟨t, a1, o, b1, b2, b3⟩ := body p e s m args below meth c s₁ B hml hP s₁ hh0 (Stand.of_body B)
    exact ⟨t, o, a1, b1, b2, b3⟩
/-! ===== END ===== -/
end
section
def RX0 : String := "DefaultFund$Auction"
def TX0 : u_T := fun k => match k with
  | 0 => ("DefaultFund$Auction", "bids", "[[I", true)
  | _ => ("DefaultFund$Auction", "lots", "I", false)
def tyX0 : Nat → FieldType := fun k => match k with
  | 0 => .array (.array .int)
  | _ => .int
abbrev wsX00 : List Cond := u_ws RX0 TX0 2
theorem nmX0 : ∀ a, a < 2 → ∀ b, b < 2 → a ≠ b → (TX0 a).2.1 ≠ (TX0 b).2.1 := by decide +kernel
theorem tyX0_ok : ∀ k, k < 2 → parseFieldDescriptor (TX0 k).2.2.1 = some (tyX0 k) := by decide +kernel
abbrev cX0_init : ByteArray := prog_2_method_1_code
def yX0_init : MethodName := ⟨RX0, "<init>", "()V"⟩
abbrev cX0_open : ByteArray := prog_2_method_2_code
def yX0_open : MethodName := ⟨RX0, "open", "(I)V"⟩
abbrev cX0_hasLot : ByteArray := prog_2_method_3_code
def yX0_hasLot : MethodName := ⟨RX0, "hasLot", "(I)Z"⟩
abbrev cX0_bidOf : ByteArray := prog_2_method_4_code
def yX0_bidOf : MethodName := ⟨RX0, "bidOf", "(II)I"⟩
abbrev cX0_enter : ByteArray := prog_2_method_5_code
def yX0_enter : MethodName := ⟨RX0, "enter", "(III)V"⟩
abbrev cX0_winnerOf : ByteArray := prog_2_method_6_code
def yX0_winnerOf : MethodName := ⟨RX0, "winnerOf", "(I)I"⟩
abbrev cX0_bidPoorly : ByteArray := prog_2_method_7_code
def yX0_bidPoorly : MethodName := ⟨RX0, "bidPoorly", "(I)Z"⟩
abbrev cX0_isLow : ByteArray := prog_2_method_8_code
def yX0_isLow : MethodName := ⟨RX0, "isLow", "(II)Z"⟩
def RX1 : String := "DefaultFund$Member"
def TX1 : u_T := fun k => match k with
  | 0 => ("DefaultFund$Member", "clients", "[I", true)
  | 1 => ("DefaultFund$Member", "clientCount", "I", false)
  | 2 => ("DefaultFund$Member", "clientLots", "I", false)
  | 3 => ("DefaultFund$Member", "state", "I", false)
  | 4 => ("DefaultFund$Member", "margin", "I", false)
  | 5 => ("DefaultFund$Member", "share", "I", false)
  | 6 => ("DefaultFund$Member", "room", "I", false)
  | 7 => ("DefaultFund$Member", "gain", "I", false)
  | 8 => ("DefaultFund$Member", "tested", "I", false)
  | 9 => ("DefaultFund$Member", "junior", "Z", false)
  | 10 => ("DefaultFund$Member", "assessed", "I", false)
  | 11 => ("DefaultFund$Member", "won", "I", false)
  | _ => ("DefaultFund$Member", "shareAtFailure", "I", false)
def tyX1 : Nat → FieldType := fun k => match k with
  | 0 => .array .int
  | 1 => .int
  | 2 => .int
  | 3 => .int
  | 4 => .int
  | 5 => .int
  | 6 => .int
  | 7 => .int
  | 8 => .int
  | 9 => .boolean
  | 10 => .int
  | 11 => .int
  | _ => .int
abbrev wsX10 : List Cond := u_ws RX1 TX1 13
theorem nmX1 : ∀ a, a < 13 → ∀ b, b < 13 → a ≠ b → (TX1 a).2.1 ≠ (TX1 b).2.1 := by decide +kernel
theorem tyX1_ok : ∀ k, k < 13 → parseFieldDescriptor (TX1 k).2.2.1 = some (tyX1 k) := by decide +kernel
abbrev cX1_init : ByteArray := prog_3_method_1_code
def yX1_init : MethodName := ⟨RX1, "<init>", "()V"⟩
abbrev cX1_join : ByteArray := prog_3_method_2_code
def yX1_join : MethodName := ⟨RX1, "join", "(III)V"⟩
abbrev cX1_isActive : ByteArray := prog_3_method_3_code
def yX1_isActive : MethodName := ⟨RX1, "isActive", "()Z"⟩
abbrev cX1_freeRoom : ByteArray := prog_3_method_4_code
def yX1_freeRoom : MethodName := ⟨RX1, "freeRoom", "()I"⟩
abbrev cX1_takesClient : ByteArray := prog_3_method_5_code
def yX1_takesClient : MethodName := ⟨RX1, "takesClient", "(I)Z"⟩
abbrev cX1_dropClients : ByteArray := prog_3_method_6_code
def yX1_dropClients : MethodName := ⟨RX1, "dropClients", "()V"⟩
abbrev cX1_raiseShare : ByteArray := prog_3_method_7_code
def yX1_raiseShare : MethodName := ⟨RX1, "raiseShare", "(I)I"⟩
abbrev cX1_loseAll : ByteArray := prog_3_method_8_code
def yX1_loseAll : MethodName := ⟨RX1, "loseAll", "()V"⟩
def RX2 : String := "DefaultFund$Parting"
def TX2 : u_T := fun k => match k with
  | 0 => ("DefaultFund$Parting", "weights", "[I", true)
  | 1 => ("DefaultFund$Parting", "bounds", "[I", true)
  | _ => ("DefaultFund$Parting", "parts", "[I", true)
def tyX2 : Nat → FieldType := fun k => match k with
  | 0 => .array .int
  | 1 => .array .int
  | _ => .array .int
abbrev wsX20 : List Cond := u_ws RX2 TX2 3
theorem nmX2 : ∀ a, a < 3 → ∀ b, b < 3 → a ≠ b → (TX2 a).2.1 ≠ (TX2 b).2.1 := by decide +kernel
theorem tyX2_ok : ∀ k, k < 3 → parseFieldDescriptor (TX2 k).2.2.1 = some (tyX2 k) := by decide +kernel
abbrev cX2_init : ByteArray := prog_4_method_1_code
def yX2_init : MethodName := ⟨RX2, "<init>", "()V"⟩
abbrev cX2_enter : ByteArray := prog_4_method_2_code
def yX2_enter : MethodName := ⟨RX2, "enter", "(III)V"⟩
abbrev cX2_partOf : ByteArray := prog_4_method_3_code
def yX2_partOf : MethodName := ⟨RX2, "partOf", "(I)I"⟩
abbrev cX2_part : ByteArray := prog_4_method_4_code
def yX2_part : MethodName := ⟨RX2, "part", "(I)I"⟩
abbrev cX2_giveCoins : ByteArray := prog_4_method_5_code
def yX2_giveCoins : MethodName := ⟨RX2, "giveCoins", "(I)I"⟩
abbrev cX2_roundsAtAStroke : ByteArray := prog_4_method_6_code
def yX2_roundsAtAStroke : MethodName := ⟨RX2, "roundsAtAStroke", "(I)I"⟩
abbrev cX2_canTake : ByteArray := prog_4_method_7_code
def yX2_canTake : MethodName := ⟨RX2, "canTake", "(I)Z"⟩
def RX3 : String := "DefaultFund"
def TX3 : u_T := fun k => match k with
  | 0 => ("DefaultFund", "members", "[LDefaultFund$Member;", true)
  | 1 => ("DefaultFund", "auction", "LDefaultFund$Auction;", true)
  | 2 => ("DefaultFund", "parting", "LDefaultFund$Parting;", true)
  | 3 => ("DefaultFund", "count", "I", false)
  | 4 => ("DefaultFund", "capital", "I", false)
  | 5 => ("DefaultFund", "loss", "I", false)
  | 6 => ("DefaultFund", "uncovered", "I", false)
  | _ => ("DefaultFund", "failing", "I", false)
def tyX3 : Nat → FieldType := fun k => match k with
  | 0 => .array (.object "DefaultFund$Member")
  | 1 => .object "DefaultFund$Auction"
  | 2 => .object "DefaultFund$Parting"
  | 3 => .int
  | 4 => .int
  | 5 => .int
  | 6 => .int
  | _ => .int
abbrev wsX30 : List Cond := u_ws RX3 TX3 8
theorem nmX3 : ∀ a, a < 8 → ∀ b, b < 8 → a ≠ b → (TX3 a).2.1 ≠ (TX3 b).2.1 := by decide +kernel
theorem tyX3_ok : ∀ k, k < 8 → parseFieldDescriptor (TX3 k).2.2.1 = some (tyX3 k) := by decide +kernel
abbrev cX3_init : ByteArray := prog_1_method_1_code
def yX3_init : MethodName := ⟨RX3, "<init>", "()V"⟩
abbrev cX3_addMember : ByteArray := prog_1_method_2_code
def yX3_addMember : MethodName := ⟨RX3, "addMember", "(III)I"⟩
abbrev cX3_addClient : ByteArray := prog_1_method_3_code
def yX3_addClient : MethodName := ⟨RX3, "addClient", "(II)I"⟩
abbrev cX3_setGain : ByteArray := prog_1_method_4_code
def yX3_setGain : MethodName := ⟨RX3, "setGain", "(II)I"⟩
abbrev cX3_setTested : ByteArray := prog_1_method_5_code
def yX3_setTested : MethodName := ⟨RX3, "setTested", "(II)I"⟩
abbrev cX3_setCapital : ByteArray := prog_1_method_6_code
def yX3_setCapital : MethodName := ⟨RX3, "setCapital", "(I)I"⟩
abbrev cX3_giveNotice : ByteArray := prog_1_method_7_code
def yX3_giveNotice : MethodName := ⟨RX3, "giveNotice", "(I)V"⟩
abbrev cX3_size : ByteArray := prog_1_method_8_code
def yX3_size : MethodName := ⟨RX3, "size", "()I"⟩
abbrev cX3_fail : ByteArray := prog_1_method_9_code
def yX3_fail : MethodName := ⟨RX3, "fail", "(II)I"⟩
abbrev cX3_bid : ByteArray := prog_1_method_10_code
def yX3_bid : MethodName := ⟨RX3, "bid", "(III)V"⟩
abbrev cX3_close : ByteArray := prog_1_method_11_code
def yX3_close : MethodName := ⟨RX3, "close", "()I"⟩
abbrev cX3_members : ByteArray := prog_1_method_12_code
def yX3_members : MethodName := ⟨RX3, "members", "()I"⟩
abbrev cX3_state : ByteArray := prog_1_method_13_code
def yX3_state : MethodName := ⟨RX3, "state", "(I)I"⟩
abbrev cX3_margin : ByteArray := prog_1_method_14_code
def yX3_margin : MethodName := ⟨RX3, "margin", "(I)I"⟩
abbrev cX3_share : ByteArray := prog_1_method_15_code
def yX3_share : MethodName := ⟨RX3, "share", "(I)I"⟩
abbrev cX3_gain : ByteArray := prog_1_method_16_code
def yX3_gain : MethodName := ⟨RX3, "gain", "(I)I"⟩
abbrev cX3_isJunior : ByteArray := prog_1_method_17_code
def yX3_isJunior : MethodName := ⟨RX3, "isJunior", "(I)Z"⟩
abbrev cX3_assessed : ByteArray := prog_1_method_18_code
def yX3_assessed : MethodName := ⟨RX3, "assessed", "(I)I"⟩
abbrev cX3_clientLots : ByteArray := prog_1_method_19_code
def yX3_clientLots : MethodName := ⟨RX3, "clientLots", "(I)I"⟩
abbrev cX3_won : ByteArray := prog_1_method_20_code
def yX3_won : MethodName := ⟨RX3, "won", "(I)I"⟩
abbrev cX3_capital : ByteArray := prog_1_method_21_code
def yX3_capital : MethodName := ⟨RX3, "capital", "()I"⟩
abbrev cX3_loss : ByteArray := prog_1_method_22_code
def yX3_loss : MethodName := ⟨RX3, "loss", "()I"⟩
abbrev cX3_uncovered : ByteArray := prog_1_method_23_code
def yX3_uncovered : MethodName := ⟨RX3, "uncovered", "()I"⟩
abbrev cX3_failing : ByteArray := prog_1_method_24_code
def yX3_failing : MethodName := ⟨RX3, "failing", "()I"⟩
abbrev cX3_existing : ByteArray := prog_1_method_25_code
def yX3_existing : MethodName := ⟨RX3, "existing", "(I)LDefaultFund$Member;"⟩
abbrev cX3_requireBetween : ByteArray := prog_1_method_26_code
def yX3_requireBetween : MethodName := ⟨RX3, "requireBetween", "(III)V"⟩
abbrev cX3_requireActive : ByteArray := prog_1_method_27_code
def yX3_requireActive : MethodName := ⟨RX3, "requireActive", "(LDefaultFund$Member;)V"⟩
abbrev cX3_requireNoFailure : ByteArray := prog_1_method_28_code
def yX3_requireNoFailure : MethodName := ⟨RX3, "requireNoFailure", "()V"⟩
abbrev cX3_neededFund : ByteArray := prog_1_method_29_code
def yX3_neededFund : MethodName := ⟨RX3, "neededFund", "()I"⟩
abbrev cX3_moveClients : ByteArray := prog_1_method_30_code
def yX3_moveClients : MethodName := ⟨RX3, "moveClients", "(LDefaultFund$Member;)I"⟩
abbrev cX3_findsHost : ByteArray := prog_1_method_31_code
def yX3_findsHost : MethodName := ⟨RX3, "findsHost", "(I)Z"⟩
abbrev cX3_awardLots : ByteArray := prog_1_method_32_code
def yX3_awardLots : MethodName := ⟨RX3, "awardLots", "()I"⟩
abbrev cX3_rankBidders : ByteArray := prog_1_method_33_code
def yX3_rankBidders : MethodName := ⟨RX3, "rankBidders", "()V"⟩
abbrev cX3_endFailure : ByteArray := prog_1_method_34_code
def yX3_endFailure : MethodName := ⟨RX3, "endFailure", "(LDefaultFund$Member;)V"⟩
abbrev cX3_eatLoss : ByteArray := prog_1_method_35_code
def yX3_eatLoss : MethodName := ⟨RX3, "eatLoss", "(LDefaultFund$Member;)I"⟩
abbrev cX3_eatShares : ByteArray := prog_1_method_36_code
def yX3_eatShares : MethodName := ⟨RX3, "eatShares", "(IZ)I"⟩
abbrev cX3_eatAssessments : ByteArray := prog_1_method_37_code
def yX3_eatAssessments : MethodName := ⟨RX3, "eatAssessments", "(I)I"⟩
abbrev cX3_eatGains : ByteArray := prog_1_method_38_code
def yX3_eatGains : MethodName := ⟨RX3, "eatGains", "(I)I"⟩
def RX4 : String := "DefaultFundModel"
def TX4 : u_T := fun k => match k with
  | 0 => ("DefaultFundModel", "margins", "[I", true)
  | 1 => ("DefaultFundModel", "sharesOf", "[I", true)
  | 2 => ("DefaultFundModel", "rooms", "[I", true)
  | 3 => ("DefaultFundModel", "gains", "[I", true)
  | 4 => ("DefaultFundModel", "tested", "[I", true)
  | 5 => ("DefaultFundModel", "states", "[I", true)
  | 6 => ("DefaultFundModel", "juniors", "[I", true)
  | 7 => ("DefaultFundModel", "assessedBy", "[I", true)
  | 8 => ("DefaultFundModel", "wonBy", "[I", true)
  | 9 => ("DefaultFundModel", "many", "I", false)
  | 10 => ("DefaultFundModel", "owners", "[I", true)
  | 11 => ("DefaultFundModel", "lotsOf", "[I", true)
  | 12 => ("DefaultFundModel", "cameAt", "[I", true)
  | 13 => ("DefaultFundModel", "came", "I", false)
  | 14 => ("DefaultFundModel", "clients", "I", false)
  | 15 => ("DefaultFundModel", "capitalNow", "I", false)
  | 16 => ("DefaultFundModel", "lossNow", "I", false)
  | 17 => ("DefaultFundModel", "uncoveredNow", "I", false)
  | 18 => ("DefaultFundModel", "failed", "I", false)
  | 19 => ("DefaultFundModel", "book", "I", false)
  | 20 => ("DefaultFundModel", "bids", "[I", true)
  | 21 => ("DefaultFundModel", "sharesThen", "[I", true)
  | 22 => ("DefaultFundModel", "weights", "[I", true)
  | 23 => ("DefaultFundModel", "bounds", "[I", true)
  | 24 => ("DefaultFundModel", "parts", "[I", true)
  | _ => ("DefaultFundModel", "thrown", "I", false)
def tyX4 : Nat → FieldType := fun k => match k with
  | 0 => .array .int
  | 1 => .array .int
  | 2 => .array .int
  | 3 => .array .int
  | 4 => .array .int
  | 5 => .array .int
  | 6 => .array .int
  | 7 => .array .int
  | 8 => .array .int
  | 9 => .int
  | 10 => .array .int
  | 11 => .array .int
  | 12 => .array .int
  | 13 => .int
  | 14 => .int
  | 15 => .int
  | 16 => .int
  | 17 => .int
  | 18 => .int
  | 19 => .int
  | 20 => .array .int
  | 21 => .array .int
  | 22 => .array .int
  | 23 => .array .int
  | 24 => .array .int
  | _ => .int
abbrev wsX40 : List Cond := u_ws RX4 TX4 26
theorem nmX4 : ∀ a, a < 26 → ∀ b, b < 26 → a ≠ b → (TX4 a).2.1 ≠ (TX4 b).2.1 := by decide +kernel
theorem tyX4_ok : ∀ k, k < 26 → parseFieldDescriptor (TX4 k).2.2.1 = some (tyX4 k) := by decide +kernel
abbrev cX4_init : ByteArray := prog_6_method_1_code
def yX4_init : MethodName := ⟨RX4, "<init>", "()V"⟩
abbrev cX4_thrown : ByteArray := prog_6_method_2_code
def yX4_thrown : MethodName := ⟨RX4, "thrown", "()I"⟩
abbrev cX4_fails : ByteArray := prog_6_method_3_code
def yX4_fails : MethodName := ⟨RX4, "fails", "(I)I"⟩
abbrev cX4_in : ByteArray := prog_6_method_4_code
def yX4_in : MethodName := ⟨RX4, "in", "(III)Z"⟩
abbrev cX4_isMember : ByteArray := prog_6_method_5_code
def yX4_isMember : MethodName := ⟨RX4, "isMember", "(I)Z"⟩
abbrev cX4_isActive : ByteArray := prog_6_method_6_code
def yX4_isActive : MethodName := ⟨RX4, "isActive", "(I)Z"⟩
abbrev cX4_addMember : ByteArray := prog_6_method_7_code
def yX4_addMember : MethodName := ⟨RX4, "addMember", "(III)I"⟩
abbrev cX4_lotsWith : ByteArray := prog_6_method_8_code
def yX4_lotsWith : MethodName := ⟨RX4, "lotsWith", "(I)I"⟩
abbrev cX4_roomOf : ByteArray := prog_6_method_9_code
def yX4_roomOf : MethodName := ⟨RX4, "roomOf", "(I)I"⟩
abbrev cX4_addClient : ByteArray := prog_6_method_10_code
def yX4_addClient : MethodName := ⟨RX4, "addClient", "(II)I"⟩
abbrev cX4_setGain : ByteArray := prog_6_method_11_code
def yX4_setGain : MethodName := ⟨RX4, "setGain", "(II)I"⟩
abbrev cX4_setTested : ByteArray := prog_6_method_12_code
def yX4_setTested : MethodName := ⟨RX4, "setTested", "(II)I"⟩
abbrev cX4_setCapital : ByteArray := prog_6_method_13_code
def yX4_setCapital : MethodName := ⟨RX4, "setCapital", "(I)I"⟩
abbrev cX4_giveNotice : ByteArray := prog_6_method_14_code
def yX4_giveNotice : MethodName := ⟨RX4, "giveNotice", "(I)V"⟩
abbrev cX4_part : ByteArray := prog_6_method_15_code
def yX4_part : MethodName := ⟨RX4, "part", "(J)I"⟩
abbrev cX4_size : ByteArray := prog_6_method_16_code
def yX4_size : MethodName := ⟨RX4, "size", "()I"⟩
abbrev cX4_newOwner : ByteArray := prog_6_method_17_code
def yX4_newOwner : MethodName := ⟨RX4, "newOwner", "(I)I"⟩
abbrev cX4_firstOf : ByteArray := prog_6_method_18_code
def yX4_firstOf : MethodName := ⟨RX4, "firstOf", "(I)I"⟩
abbrev cX4_fail : ByteArray := prog_6_method_19_code
def yX4_fail : MethodName := ⟨RX4, "fail", "(II)I"⟩
abbrev cX4_bid : ByteArray := prog_6_method_20_code
def yX4_bid : MethodName := ⟨RX4, "bid", "(III)V"⟩
abbrev cX4_winner : ByteArray := prog_6_method_21_code
def yX4_winner : MethodName := ⟨RX4, "winner", "(I)I"⟩
abbrev cX4_rank : ByteArray := prog_6_method_22_code
def yX4_rank : MethodName := ⟨RX4, "rank", "(I)V"⟩
abbrev cX4_eatShares : ByteArray := prog_6_method_23_code
def yX4_eatShares : MethodName := ⟨RX4, "eatShares", "(II)I"⟩
abbrev cX4_assess : ByteArray := prog_6_method_24_code
def yX4_assess : MethodName := ⟨RX4, "assess", "(I)I"⟩
abbrev cX4_cutGains : ByteArray := prog_6_method_25_code
def yX4_cutGains : MethodName := ⟨RX4, "cutGains", "(I)I"⟩
abbrev cX4_empty : ByteArray := prog_6_method_26_code
def yX4_empty : MethodName := ⟨RX4, "empty", "(II)V"⟩
abbrev cX4_close : ByteArray := prog_6_method_27_code
def yX4_close : MethodName := ⟨RX4, "close", "()I"⟩
abbrev cX4_members : ByteArray := prog_6_method_28_code
def yX4_members : MethodName := ⟨RX4, "members", "()I"⟩
abbrev cX4_state : ByteArray := prog_6_method_29_code
def yX4_state : MethodName := ⟨RX4, "state", "(I)I"⟩
abbrev cX4_margin : ByteArray := prog_6_method_30_code
def yX4_margin : MethodName := ⟨RX4, "margin", "(I)I"⟩
abbrev cX4_share : ByteArray := prog_6_method_31_code
def yX4_share : MethodName := ⟨RX4, "share", "(I)I"⟩
abbrev cX4_gain : ByteArray := prog_6_method_32_code
def yX4_gain : MethodName := ⟨RX4, "gain", "(I)I"⟩
abbrev cX4_isJunior : ByteArray := prog_6_method_33_code
def yX4_isJunior : MethodName := ⟨RX4, "isJunior", "(I)Z"⟩
abbrev cX4_assessed : ByteArray := prog_6_method_34_code
def yX4_assessed : MethodName := ⟨RX4, "assessed", "(I)I"⟩
abbrev cX4_clientLots : ByteArray := prog_6_method_35_code
def yX4_clientLots : MethodName := ⟨RX4, "clientLots", "(I)I"⟩
abbrev cX4_won : ByteArray := prog_6_method_36_code
def yX4_won : MethodName := ⟨RX4, "won", "(I)I"⟩
abbrev cX4_capital : ByteArray := prog_6_method_37_code
def yX4_capital : MethodName := ⟨RX4, "capital", "()I"⟩
abbrev cX4_loss : ByteArray := prog_6_method_38_code
def yX4_loss : MethodName := ⟨RX4, "loss", "()I"⟩
abbrev cX4_uncovered : ByteArray := prog_6_method_39_code
def yX4_uncovered : MethodName := ⟨RX4, "uncovered", "()I"⟩
abbrev cX4_failing : ByteArray := prog_6_method_40_code
def yX4_failing : MethodName := ⟨RX4, "failing", "()I"⟩
def RL : String := "DefaultFundLaw"
abbrev cL_addMember : ByteArray := method_3_code
def yL_addMember : MethodName := ⟨RL, "addMember", "(LDefaultFund;III[J)I"⟩
abbrev cL_addClient : ByteArray := method_4_code
def yL_addClient : MethodName := ⟨RL, "addClient", "(LDefaultFund;II[J)I"⟩
abbrev cL_setGain : ByteArray := method_5_code
def yL_setGain : MethodName := ⟨RL, "setGain", "(LDefaultFund;II[J)I"⟩
abbrev cL_setTested : ByteArray := method_6_code
def yL_setTested : MethodName := ⟨RL, "setTested", "(LDefaultFund;II[J)I"⟩
abbrev cL_setCapital : ByteArray := method_7_code
def yL_setCapital : MethodName := ⟨RL, "setCapital", "(LDefaultFund;I[J)I"⟩
abbrev cL_giveNotice : ByteArray := method_8_code
def yL_giveNotice : MethodName := ⟨RL, "giveNotice", "(LDefaultFund;I)I"⟩
abbrev cL_size : ByteArray := method_9_code
def yL_size : MethodName := ⟨RL, "size", "(LDefaultFund;[J)I"⟩
abbrev cL_fail : ByteArray := method_10_code
def yL_fail : MethodName := ⟨RL, "fail", "(LDefaultFund;II[J)I"⟩
abbrev cL_bid : ByteArray := method_11_code
def yL_bid : MethodName := ⟨RL, "bid", "(LDefaultFund;III)I"⟩
abbrev cL_close : ByteArray := method_12_code
def yL_close : MethodName := ⟨RL, "close", "(LDefaultFund;[J)I"⟩
abbrev cL_state : ByteArray := method_13_code
def yL_state : MethodName := ⟨RL, "state", "(LDefaultFund;I[J)I"⟩
abbrev cL_margin : ByteArray := method_14_code
def yL_margin : MethodName := ⟨RL, "margin", "(LDefaultFund;I[J)I"⟩
abbrev cL_share : ByteArray := method_15_code
def yL_share : MethodName := ⟨RL, "share", "(LDefaultFund;I[J)I"⟩
abbrev cL_gain : ByteArray := method_16_code
def yL_gain : MethodName := ⟨RL, "gain", "(LDefaultFund;I[J)I"⟩
abbrev cL_isJunior : ByteArray := method_17_code
def yL_isJunior : MethodName := ⟨RL, "isJunior", "(LDefaultFund;I[J)I"⟩
abbrev cL_assessed : ByteArray := method_18_code
def yL_assessed : MethodName := ⟨RL, "assessed", "(LDefaultFund;I[J)I"⟩
abbrev cL_clientLots : ByteArray := method_19_code
def yL_clientLots : MethodName := ⟨RL, "clientLots", "(LDefaultFund;I[J)I"⟩
abbrev cL_won : ByteArray := method_20_code
def yL_won : MethodName := ⟨RL, "won", "(LDefaultFund;I[J)I"⟩
abbrev cL_law : ByteArray := code
def yL_law : MethodName := ⟨RL, "law", "([I)Z"⟩
abbrev vwCl : List vw_C := [(RX0, TX0, 2), (RX1, TX1, 13), (RX2, TX2, 3), (RX3, TX3, 8), (RX4, TX4, 26)]
end
section
/-! ===== values as whole numbers; one world of cells for both sides ===== -/
abbrev AV : Type := Int ⊕ Int ⊕ (Nat × Nat) ⊕ Nat
abbrev vI (x : Int) : AV := Sum.inl x
abbrev vL (x : Int) : AV := Sum.inr (Sum.inl x)
abbrev vR (t i : Nat) : AV := Sum.inr (Sum.inr (Sum.inl (t, i)))
abbrev vX (a : Nat) : AV := Sum.inr (Sum.inr (Sum.inr a))
abbrev St : Type := Nat → Nat → Nat → Int
/-- the launch, the numbers of classes and slots, the addresses, the numbers of the array classes -/
abbrev Gl : Type := Launch × va_G × (Nat → Nat → Nat) × (Nat → ClassId)
def cv (g : Gl) : AV → Value
  | .inl x => .int (Int32.ofInt x)
  | .inr (.inl x) => .long (Int64.ofInt x)
  | .inr (.inr (.inl q)) => .ref (g.2.2.1 q.1 q.2)
  | .inr (.inr (.inr a)) => .ref a
def up3 (S : St) (t i k : Nat) (v : Int) : St := fun a b c => if a = t ∧ b = i ∧ c = k then v else S a b c
def upT (S : St) (t i : Nat) (f : Nat → Int) : St := fun a b => if a = t ∧ b = i then f else S a b
theorem up3_T (S : St) (t i k : Nat) (v : Int) : up3 S t i k v = upT S t i (fun c => if c = k then v else S t i c) := by
  funext a b c
  unfold up3 upT
  by_cases h : a = t ∧ b = i
  · obtain ⟨rfl, rfl⟩ := h
    by_cases hc : c = k <;> simp [hc]
  · rw [if_neg h, if_neg (fun q => h ⟨q.1, q.2.1⟩)]
/-- how many of a kind -/
def ctn : Nat → Nat | 4 => 10 | 5 => 10 | 7 => 10 | _ => 1
def prs : List (Nat × Nat) := (List.range 30).flatMap fun t => (List.range (ctn t)).map fun i => (t, i)
theorem mem_prs {t i : Nat} (ht : t < 30) (hi : i < ctn t) : (t, i) ∈ prs := List.mem_flatMap.mpr ⟨t, List.mem_range.mpr ht, List.mem_map.mpr ⟨i, List.mem_range.mpr hi, rfl⟩⟩
theorem prs_nd : prs.Nodup := by decide +kernel
theorem prs_inj {i j : Nat} {q : Nat × Nat} (h1 : prs[i]? = some q) (h2 : prs[j]? = some q) : i = j := by
  have hi : i < prs.length := (List.getElem?_eq_some_iff.mp h1).1
  exact (List.getElem?_inj hi prs_nd).mp (h1.trans h2.symm)
/-- 0 to 4: an object of that number in vwCl; 5 whole numbers, 6 references, 7 long numbers -/
def kd : Nat → Nat | 0 => 3 | 2 => 0 | 3 => 2 | 4 => 1 | 11 => 4 | 1 => 6 | 6 => 6 | 29 => 7 | _ => 5
def nf : Nat → Nat | 0 => 8 | 2 => 2 | 3 => 3 | 4 => 13 | 11 => 26 | 29 => 1 | 5 => 100 | 7 => 120 | 21 => 1000 | 22 => 1000 | 23 => 1000 | 24 => 1200 | _ => 10
def rfp (t k : Nat) : Option Nat := match t, k with
  | 0, 0 => some 1 | 0, 1 => some 2 | 0, 2 => some 3 | 2, 0 => some 6 | 3, 0 => some 8 | 3, 1 => some 9 | 3, 2 => some 10 | 4, 0 => some 5
  | 11, 0 => some 12 | 11, 1 => some 13 | 11, 2 => some 14 | 11, 3 => some 15 | 11, 4 => some 16 | 11, 5 => some 17 | 11, 6 => some 18 | 11, 7 => some 19 | 11, 8 => some 20
  | 11, 10 => some 21 | 11, 11 => some 22 | 11, 12 => some 23 | 11, 20 => some 24 | 11, 21 => some 25 | 11, 22 => some 26 | 11, 23 => some 27 | 11, 24 => some 28
  | _, _ => none
def slt (g : Gl) (t i k : Nat) (z : Int) : Value := match rfp t k with | some u => .ref (g.2.2.1 u i) | none => .int (Int32.ofInt z)
def en (g : Gl) (t i : Nat) (f : Nat → Int) : va_E :=
  if kd t < 5 then .inr (kd t, (List.range (nf t)).map fun k => slt g t i k (f k))
  else if kd t = 5 then .inl (g.2.2.2 0, nf t, .inl fun k => Int32.ofInt (f k))
  else if kd t = 6 then .inl (g.2.2.2 (if t = 1 then 1 else 2), nf t, .inr (.inr (.inr (.inr fun k => some (g.2.2.1 (if t = 1 then 4 else 7) k)))))
  else .inl (g.2.2.2 3, nf t, .inr (.inl fun k => Int64.ofInt (f k)))
def wl (g : Gl) (S : St) : va_W := prs.map fun p => (g.2.2.1 p.1 p.2, en g p.1 p.2 (S p.1 p.2))
def tyl (g : Gl) : List (ClassId × FieldType) := [(g.2.2.2 0, .int), (g.2.2.2 1, .object RX1), (g.2.2.2 2, .array .int), (g.2.2.2 3, .long)]
theorem wl_get (g : Gl) (S : St) {t i : Nat} (ht : t < 30) (hi : i < ctn t) : ∃ q : Nat, prs[q]? = some (t, i) ∧ (wl g S)[q]? = some (g.2.2.1 t i, en g t i (S t i)) := by
  obtain ⟨q, hq⟩ := List.getElem?_of_mem (mem_prs ht hi)
  exact ⟨q, hq, by simp [wl, hq]⟩
theorem wl_set (g : Gl) (S : St) {t i q : Nat} (hq : prs[q]? = some (t, i)) (f : Nat → Int) : (wl g S).set q (g.2.2.1 t i, en g t i f) = wl g (upT S t i f) := by
  apply List.ext_getElem?
  intro j
  have hl : q < prs.length := (List.getElem?_eq_some_iff.mp hq).1
  rw [List.getElem?_set]
  by_cases e : q = j
  · subst e
    have hl2 : q < (wl g S).length := by simp only [wl, List.length_map]; exact hl
    rw [if_pos rfl, if_pos hl2]
    simp only [wl, List.getElem?_map, hq, Option.map_some, upT]
    simp
  · rw [if_neg e]
    simp only [wl, List.getElem?_map]
    cases h : prs[j]? with
    | none => rfl
    | some p =>
      obtain ⟨a, b⟩ := p
      have hn : ¬ (a = t ∧ b = i) := fun q => e (prs_inj hq (by rw [h, q.1, q.2]))
      simp only [Option.map_some, upT, if_neg hn]
theorem en_obj (g : Gl) {t : Nat} (i : Nat) (f : Nat → Int) (h : kd t < 5) : en g t i f = .inr (kd t, (List.range (nf t)).map fun k => slt g t i k (f k)) := by
  unfold en
  rw [if_pos h]
theorem en_int (g : Gl) {t : Nat} (i : Nat) (f : Nat → Int) (h : kd t = 5) : en g t i f = .inl (g.2.2.2 0, nf t, .inl fun k => Int32.ofInt (f k)) := by
  unfold en
  rw [if_neg (by omega), if_pos h]
theorem en_ref (g : Gl) {t : Nat} (i : Nat) (f : Nat → Int) (h : kd t = 6) : en g t i f = .inl (g.2.2.2 (if t = 1 then 1 else 2), nf t, .inr (.inr (.inr (.inr fun k => some (g.2.2.1 (if t = 1 then 4 else 7) k))))) := by
  unfold en
  rw [if_neg (by omega), if_neg (by omega), if_pos h]
theorem en_lng (g : Gl) {t : Nat} (i : Nat) (f : Nat → Int) (h : kd t = 7) : en g t i f = .inl (g.2.2.2 3, nf t, .inr (.inl fun k => Int64.ofInt (f k))) := by
  unfold en
  rw [if_neg (by omega), if_neg (by omega), if_neg (by omega)]
theorem slots_get {n k : Nat} (F : Nat → Value) (h : k < n) : ((List.range n).map F)[k]? = some (F k) := by simp [h]
theorem slots_set {n k : Nat} (F G : Nat → Value) (hk : ∀ j, j ≠ k → F j = G j) : ((List.range n).map F).set k (G k) = (List.range n).map G := by
  apply List.ext_getElem?
  intro j
  rw [List.getElem?_set]
  by_cases e : k = j
  · subst e
    by_cases h : k < n <;> simp [h]
  · rw [if_neg e]
    simp only [List.getElem?_map]
    cases h : (List.range n)[j]? with
    | none => rfl
    | some x =>
      have : x = j := by
        rw [List.getElem?_range] at h
        · exact (Option.some.inj h).symm
        · exact Nat.lt_of_not_le fun q => by simp [List.getElem?_eq_none, q] at h
      subst this
      simp only [Option.map_some, hk _ (Ne.symm e)]
/-- the world: all cells of both sides hold what S says -/
def Wd (g : Gl) (S : St) (H : Heap) : Prop := va_P g.2.1 vwCl (wl g S) H
/-- the addresses are apart -/
def Apt (g : Gl) : Prop := ∀ p, p ∈ prs → ∀ q, q ∈ prs → g.2.2.1 p.1 p.2 = g.2.2.1 q.1 q.2 → p = q
theorem Apt.D {g : Gl} (h : Apt g) {A : Nat → Prop} (hA : ∀ p, p ∈ prs → A (g.2.2.1 p.1 p.2)) (S : St) : va_D A (wl g S) := by
  refine ⟨fun i j p q hi hj he => ?_, fun k q hk => ?_⟩
  · simp only [wl, List.getElem?_map] at hi hj
    cases h1 : prs[i]? with
    | none => rw [h1] at hi; cases hi
    | some a =>
      cases h2 : prs[j]? with
      | none => rw [h2] at hj; cases hj
      | some b =>
        rw [h1] at hi; rw [h2] at hj
        cases hi; cases hj
        have e : a = b := h a (List.mem_of_getElem? h1) b (List.mem_of_getElem? h2) he
        subst e
        exact prs_inj h1 h2
  · simp only [wl, List.getElem?_map] at hk
    cases h1 : prs[k]? with
    | none => rw [h1] at hk; cases hk
    | some a =>
      rw [h1] at hk
      cases hk
      exact hA a (List.mem_of_getElem? h1)
/-! ===== the tables' words ===== -/
def WT : List Cond := lw_tbl.filter goodWord
theorem wt_at {w : Cond} (i : Nat) (h : lw_tbl[i]? = some w) (hg : goodWord w = true) : w ∈ WT := List.mem_filter.mpr ⟨List.mem_of_getElem? h, hg⟩
def isNest : Cond → Bool
  | .fieldLinkNest .. => true
  | .methodLinkNest .. => true
  | .castable .. => true
  | _ => false
def NW : List Cond := lw_tbl.filter isNest
theorem nw_at {w : Cond} (i : Nat) (h : lw_tbl[i]? = some w) (hg : isNest w = true) : w ∈ NW := List.mem_filter.mpr ⟨List.mem_of_getElem? h, hg⟩
theorem nest_tab {w : Cond} (h : isNest w = true) : w.onTables = true := by
  cases w <;> first | rfl | (simp [isNest] at h)
theorem nest_warm {w : Cond} (h : isNest w = true) {s U : State} (hW : s.WarmedH U.vm) (hZ : va_Nw w s) : va_Nw w U := by
  cases w <;> first | exact va_Nw.warmF hW hZ | exact va_Nw.warmM hW hZ | exact va_Nw.warmC hW hZ | (simp [isNest] at h)
theorem wt_good {ws : List Cond} (h : ∀ w ∈ ws, w ∈ WT) : GoodIn WT ws := fun w hw => ⟨h w hw, good_of_word (List.mem_filter.mp (h w hw)).2⟩
def strs : List (String × Nat × String) := [(RX3, 181, "an argument is out of range"), (RX3, 53, "there are 10 members"), (RX3, 177, "there is no such member"), (RX3, 184, "the member is not active"), (RX3, 73, "the member has no room for the client"), (RX3, 88, "the member does not go on"), (RX3, 186, "a failure is dealt with"), (RX3, 135, "there is no such lot"), (RX3, 142, "the member has bid for the lot"), (RX3, 145, "no failure is dealt with")]
def E_A : String := "java/lang/IllegalArgumentException"
def E_S : String := "java/lang/IllegalStateException"
def E_B : String := "java/lang/IndexOutOfBoundsException"
def ncs : List (String × String) := [(E_A, E_S), (E_A, E_B), (E_S, E_A), (E_S, E_B), (E_B, E_A), (E_B, E_S)]
/-- what the machine's tables say, the same from call to call -/
def GV (g : Gl) (U : State) : Prop := (∀ w ∈ NW, va_Nw w U) ∧ va_K g.2.1 vwCl (tyl g) U ∧ (∀ q ∈ strs, ∃ a, vk_R q.1 q.2.1 q.2.2 a U) ∧ (∀ q ∈ ncs, va_Nc q.1 q.2 U) ∧ Apt g ∧ g.1.stackTraces = false
theorem GV.same {g : Gl} {u U : State} (h : u.vm = U.vm) (k : GV g u) : GV g U := by
  have hal : u.vm.Alike U.vm := by rw [h]; exact Vm.Alike.refl _
  exact ⟨fun w hw => va_Nw.same (nest_tab (List.mem_filter.mp hw).2) h (k.1 w hw), va_K.moved hal k.2.1, fun q hq => by obtain ⟨a, ha⟩ := k.2.2.1 q hq; exact ⟨a, vk_R.same h.symm ha⟩, fun q hq => va_Nc.moved hal (k.2.2.2.1 q hq), k.2.2.2.2⟩
theorem GV.warm {g : Gl} {s U : State} (hW : s.WarmedH U.vm) (k : GV g s) : GV g U :=
  ⟨fun w hw => nest_warm (List.mem_filter.mp hw).2 hW (k.1 w hw), va_K.moved hW.alike k.2.1, fun q hq => by obtain ⟨a, ha⟩ := k.2.2.1 q hq; exact ⟨a, vk_R.warm hW ha⟩, fun q hq => va_Nc.moved hW.alike (k.2.2.2.1 q hq), k.2.2.2.2⟩
/-- the cells that a call may write: the world's, and new ones -/
def Ag (g : Gl) (sz : Nat) : Nat → Prop := fun q => (∃ p, p ∈ prs ∧ q = g.2.2.1 p.1 p.2) ∨ sz ≤ q
def Zs (A : Nat → Prop) (U : State) (H : Heap) : Prop := vx_Zq Bundle.tN "UNASSIGNED_STACK" Bundle.steD A U H ∧ vx_Zq Bundle.tN "SUPPRESSED_SENTINEL" Bundle.listD A U H
def rgI (x : Int) : Prop := -2147483648 ≤ x ∧ x ≤ 2147483647
theorem toI {z : Int} (h : -2147483648 ≤ z ∧ z ≤ 2147483647) : (Int32.ofInt z).toInt = z := by
  have e : z.bmod (2 ^ 32) = z := Int.bmod_eq_of_le (by omega) (by omega)
  rw [Int32.toInt_ofInt]
  exact e
theorem toL {z : Int} (h : -9223372036854775808 ≤ z ∧ z ≤ 9223372036854775807) : (Int64.ofInt z).toInt = z := by
  have e : z.bmod (2 ^ 64) = z := Int.bmod_eq_of_le (by omega) (by omega)
  rw [Int64.toInt_ofInt]
  exact e
theorem ofI_le {a b : Int} (ha : -2147483648 ≤ a ∧ a ≤ 2147483647) (hb : -2147483648 ≤ b ∧ b ≤ 2147483647) : Int32.ofInt a ≤ Int32.ofInt b ↔ a ≤ b := by
  rw [Int32.le_iff_toInt_le, toI ha, toI hb]
theorem ofI_lt {a b : Int} (ha : -2147483648 ≤ a ∧ a ≤ 2147483647) (hb : -2147483648 ≤ b ∧ b ≤ 2147483647) : Int32.ofInt a < Int32.ofInt b ↔ a < b := by
  rw [Int32.lt_iff_toInt_lt, toI ha, toI hb]
theorem ofI_eq {a b : Int} (ha : -2147483648 ≤ a ∧ a ≤ 2147483647) (hb : -2147483648 ≤ b ∧ b ≤ 2147483647) : Int32.ofInt a = Int32.ofInt b ↔ a = b := by
  rw [← Int32.toInt_inj, toI ha, toI hb]
theorem ofI_clamp {j : Int} {n : Nat} (h : 0 ≤ j ∧ j < n) (hn : n ≤ 2147483647) : (Int32.ofInt j).toNatClampNeg = j.toNat ∧ vp_in (Int32.ofInt j) n := by
  have e : (Int32.ofInt j).toInt = j := toI (by omega)
  have e2 : (Int32.ofInt j).toNatClampNeg = j.toNat := by
    show (Int32.ofInt j).toInt.toNat = _
    rw [e]
  exact ⟨e2, by rw [vp_in_iff, e]; exact ⟨h.1, h.2⟩⟩
end
section
/-! ===== the walking layer: K n pc L st S says that the machine, at pc with locals L and stack st over the world S, n throws accounted for, comes to its end ===== -/
theorem divI_ne {a b : Int} (h : (0 ≤ a ∧ a ≤ 2147483647) ∧ 0 < b ∧ b ≤ 2147483647) : ¬ Int32.ofInt b = 0 := by
  intro q
  have e : (Int32.ofInt b).toInt = b := toI (by omega)
  rw [q] at e
  have : (0 : Int32).toInt = 0 := rfl
  omega
theorem divI {a b : Int} (h : (0 ≤ a ∧ a ≤ 2147483647) ∧ 0 < b ∧ b ≤ 2147483647) : Int32.ofInt a / Int32.ofInt b = Int32.ofInt (a / b) := by
  have h1 : 0 ≤ a / b := Int.ediv_nonneg h.1.1 (by omega)
  have h2 : a / b ≤ a := Int.ediv_le_self b h.1.1
  rw [← Int32.toInt_inj, Int32.toInt_div, toI (by omega), toI (by omega), toI (by omega), Int.tdiv_eq_ediv_of_nonneg h.1.1]
  exact Int.bmod_eq_of_le (by omega) (by omega)
theorem divL_ne {a b : Int} (h : (0 ≤ a ∧ a ≤ 9223372036854775807) ∧ 0 < b ∧ b ≤ 9223372036854775807) : ¬ Int64.ofInt b = 0 := by
  intro q
  have e : (Int64.ofInt b).toInt = b := toL (by omega)
  rw [q] at e
  have : (0 : Int64).toInt = 0 := rfl
  omega
theorem divL {a b : Int} (h : (0 ≤ a ∧ a ≤ 9223372036854775807) ∧ 0 < b ∧ b ≤ 9223372036854775807) : Int64.ofInt a / Int64.ofInt b = Int64.ofInt (a / b) := by
  have h1 : 0 ≤ a / b := Int.ediv_nonneg h.1.1 (by omega)
  have h2 : a / b ≤ a := Int.ediv_le_self b h.1.1
  rw [← Int64.toInt_inj, Int64.toInt_div, toL (by omega), toL (by omega), toL (by omega), Int.tdiv_eq_ediv_of_nonneg h.1.1]
  exact Int.bmod_eq_of_le (by omega) (by omega)
theorem i2lI {a : Int} (h : -2147483648 ≤ a ∧ a ≤ 2147483647) : (Int32.ofInt a).toInt64 = Int64.ofInt a := by
  rw [← Int64.toInt_inj, Int32.toInt_toInt64, toI h, toL (by omega)]
theorem l2iI (a : Int) : (Int64.ofInt a).toInt32 = Int32.ofInt a := by
  rw [← Int32.toInt_inj, Int64.toInt_toInt32, Int64.toInt_ofInt, Int32.toInt_ofInt]
  exact Int.bmod_bmod_of_dvd (by decide)
theorem lcmpI {a b : Int} (h : (-9223372036854775808 ≤ a ∧ a ≤ 9223372036854775807) ∧ -9223372036854775808 ≤ b ∧ b ≤ 9223372036854775807) : lg_cmp (Int64.ofInt a) (Int64.ofInt b) = Int32.ofInt (if b < a then 1 else if a = b then 0 else -1) := by
  unfold lg_cmp
  have e1 : (Int64.ofInt a > Int64.ofInt b) ↔ b < a := by
    show Int64.ofInt b < Int64.ofInt a ↔ _
    rw [Int64.lt_iff_toInt_lt, toL h.1, toL h.2]
  have e2 : (Int64.ofInt a = Int64.ofInt b) ↔ a = b := by
    rw [← Int64.toInt_inj, toL h.1, toL h.2]
  by_cases h1 : b < a
  · rw [if_pos (e1.mpr h1), if_pos h1]; rfl
  · rw [if_neg (fun q => h1 (e1.mp q)), if_neg h1]
    by_cases h2 : a = b
    · rw [if_pos (e2.mpr h2), if_pos h2]; rfl
    · rw [if_neg (fun q => h2 (e2.mp q)), if_neg h2]; rfl
section KL
def Ctx (g : Gl) (own : String) (cc : ByteArray) (nL fr lo N : Nat) (p : Program) (R : Room) (s : State) (m : MethodId) (args : Array Value) (meth : Method) (c : Code) (A : Nat → Prop) (c0 s0 : Nat) : Prop :=
  p.tables.exec = Jvm.exec ∧ c.code = cc ∧ c.maxLocals = nL ∧ s.vm.findClass own = some m.cls ∧ (∀ w ∈ WT, w.before args s = true) ∧ GV g s ∧ (∀ q, q ∈ prs → A (g.2.2.1 q.1 q.2)) ∧ (∀ q, s.heap.size ≤ q → A q) ∧ Zs A s s.heap ∧ meth.locks = false ∧ fr ≤ R.frames ∧ lo ≤ R.locals ∧ c0 + N ≤ R.cells ∧ s0 + 6 * N ≤ R.slots
def lvs (g : Gl) (ls : Array Slot) (nL : Nat) (L : List (Option AV)) : Prop := ls.size = nL ∧ lv_wf ls ∧ ∀ (n : Nat) (v : AV), L[n]? = some (some v) → ls[n]? = some (.val (cv g v))
abbrev KT : Type := Nat → Nat → List (Option AV) → List AV → St → Prop
def Wk (g : Gl) (nL N : Nat) (p : Program) (e : Env) (R : Room) (s : State) (m : MethodId) (args : Array Value) (below : List Frame) (meth : Method) (c : Code) (A : Nat → Prop) (c0 s0 : Nat) (Q : State → Prop) : KT := fun n pc L st S =>
  n ≤ N → ∀ (H : Heap) (locs : List Loc) (ls : Array Slot), Wd g S H → va_S A s.heap H locs → lvs g ls nL L → W p g.1 e R s m args below meth c H locs (c0 + n) (s0 + 6 * n) Q (F0 m pc ls (st.map (cv g)))
def Mk (g : Gl) (own : String) (cc : ByteArray) (nL fr lo N : Nat) (K : KT) : Prop :=
  ∃ (p : Program) (e : Env) (R : Room) (s : State) (m : MethodId) (args : Array Value) (below : List Frame) (meth : Method) (c : Code) (A : Nat → Prop) (c0 s0 : Nat) (Q : State → Prop), Ctx g own cc nL fr lo N p R s m args meth c A c0 s0 ∧ ∀ n pc L st S, K n pc L st S ↔ Wk g nL N p e R s m args below meth c A c0 s0 Q n pc L st S
variable {g : Gl} {own : String} {cc : ByteArray} {nL fr lo N : Nat} {K : KT} {n pc : Nat} {L : List (Option AV)} {st : List AV} {S : St}
/-- a row that changes neither the world nor the count -/
theorem Mk.go (M : Mk g own cc nL fr lo N K) {pc' : Nat} {L' : List (Option AV)} {st' : List AV}
    (h : ∀ (p : Program) (e : Env) (R : Room) (s : State) (m : MethodId) (args : Array Value) (below : List Frame) (meth : Method) (c : Code) (A : Nat → Prop) (c0 s0 : Nat) (Q : State → Prop), Ctx g own cc nL fr lo N p R s m args meth c A c0 s0 → ∀ (H : Heap) (locs : List Loc) (ls : Array Slot), Wd g S H → va_S A s.heap H locs → lvs g ls nL L → n ≤ N →
      (∀ ls' : Array Slot, lvs g ls' nL L' → W p g.1 e R s m args below meth c H locs (c0 + n) (s0 + 6 * n) Q (F0 m pc' ls' (st'.map (cv g)))) → W p g.1 e R s m args below meth c H locs (c0 + n) (s0 + 6 * n) Q (F0 m pc ls (st.map (cv g))))
    (k : K n pc' L' st' S) : K n pc L st S := by
  obtain ⟨p, e, R, s, m, args, below, meth, c, A, c0, s0, Q, C, hK⟩ := M
  rw [hK] at k ⊢
  intro hn H locs ls hW hS hL
  exact h p e R s m args below meth c A c0 s0 Q C H locs ls hW hS hL hn (fun ls' hL' => k hn H locs ls' hW hS hL')
/-- a row of two ways -/
theorem Mk.two (M : Mk g own cc nL fr lo N K) {pc1 pc2 : Nat} {st' : List AV} {P1 P2 : Prop}
    (h : ∀ (p : Program) (e : Env) (R : Room) (s : State) (m : MethodId) (args : Array Value) (below : List Frame) (meth : Method) (c : Code) (A : Nat → Prop) (c0 s0 : Nat) (Q : State → Prop), Ctx g own cc nL fr lo N p R s m args meth c A c0 s0 → ∀ (H : Heap) (locs : List Loc) (ls : Array Slot),
      (P1 → W p g.1 e R s m args below meth c H locs (c0 + n) (s0 + 6 * n) Q (F0 m pc1 ls (st'.map (cv g)))) → (P2 → W p g.1 e R s m args below meth c H locs (c0 + n) (s0 + 6 * n) Q (F0 m pc2 ls (st'.map (cv g)))) → W p g.1 e R s m args below meth c H locs (c0 + n) (s0 + 6 * n) Q (F0 m pc ls (st.map (cv g))))
    (k1 : P1 → K n pc1 L st' S) (k2 : P2 → K n pc2 L st' S) : K n pc L st S := by
  obtain ⟨p, e, R, s, m, args, below, meth, c, A, c0, s0, Q, C, hK⟩ := M
  have k1' : P1 → Wk g nL N p e R s m args below meth c A c0 s0 Q n pc1 L st' S := fun q => (hK _ _ _ _ _).mp (k1 q)
  have k2' : P2 → Wk g nL N p e R s m args below meth c A c0 s0 Q n pc2 L st' S := fun q => (hK _ _ _ _ _).mp (k2 q)
  rw [hK]
  intro hn H locs ls hW hS hL
  exact h p e R s m args below meth c A c0 s0 Q C H locs ls (fun q => k1' q hn H locs ls hW hS hL) (fun q => k2' q hn H locs ls hW hS hL)
def stOK (L : List (Option AV)) (n : Nat) : Bool := match n with
  | 0 => true
  | j + 1 => match L[j]? with
    | some (some (.inr (.inl _))) => false
    | _ => true
theorem cv_cat (g : Gl) (v : AV) (h : (cv g v).category = 2) : ∃ x, v = vL x := by
  rcases v with x | x | q | a <;> first | exact ⟨x, rfl⟩ | (exfalso; revert h; simp [cv, Value.category])
def lvl (g : Gl) (L : List (Option AV)) : List (Nat × Value) := L.zipIdx.filterMap fun q => q.1.map fun v => (q.2, cv g v)
theorem lvl_mem {g : Gl} {L : List (Option AV)} {j : Nat} {x : Value} : (j, x) ∈ lvl g L ↔ ∃ v, L[j]? = some (some v) ∧ x = cv g v := by
  constructor
  · intro h
    obtain ⟨⟨o, i⟩, h1, h2⟩ := List.mem_filterMap.mp h
    have h3 := List.mk_mem_zipIdx_iff_getElem?.mp h1
    cases o with
    | none => cases h2
    | some v =>
      cases h2
      exact ⟨v, h3, rfl⟩
  · rintro ⟨v, h, rfl⟩
    exact List.mem_filterMap.mpr ⟨(some v, j), List.mk_mem_zipIdx_iff_getElem?.mpr h, rfl⟩
theorem lvs.lv {ls : Array Slot} (h : lvs g ls nL L) : lv_has ls nL (lvl g L) := ⟨h.1, h.2.1, fun q hq => by
  obtain ⟨j, x⟩ := q
  obtain ⟨v, h1, rfl⟩ := lvl_mem.mp hq
  exact h.2.2 j v h1⟩
theorem lvs.of1 {ls' : Array Slot} {i : Nat} {v : AV} (hs : stOK L i = true)
    (h : lv_has ls' nL ((i, cv g v) :: (lvl g L).filter (fun q => !(q.1 == i) && !(q.1 + 1 == i && q.2.category == 2)))) : lvs g ls' nL (L.set i (some v)) := by
  refine ⟨h.1, h.2.1, fun j w hw => ?_⟩
  by_cases e : i = j
  · subst e
    rw [List.getElem?_set] at hw
    by_cases hl : i < L.length
    · rw [if_pos rfl, if_pos hl] at hw
      cases hw
      exact h.2.2 (i, cv g v) List.mem_cons_self
    · rw [if_pos rfl, if_neg hl] at hw
      cases hw
  · rw [List.getElem?_set_ne e] at hw
    refine h.2.2 (j, cv g w) (List.mem_cons_of_mem _ (List.mem_filter.mpr ⟨lvl_mem.mpr ⟨w, hw, rfl⟩, ?_⟩))
    have h1 : (j == i) = false := by simp [Ne.symm e]
    have h2 : (j + 1 == i && (cv g w).category == 2) = false := by
      by_cases hj : j + 1 = i
      · by_cases hc : (cv g w).category = 2
        · obtain ⟨x, rfl⟩ := cv_cat g w hc
          subst hj
          exfalso
          simp [stOK, hw] at hs
        · simp [hc]
      · simp [hj]
    simp only [h1, h2, Bool.not_false, Bool.and_self]
theorem lvs.of2 {ls' : Array Slot} {i : Nat} {v : AV} (hs : stOK L i = true)
    (h : lv_has ls' nL ((i, cv g v) :: (lvl g L).filter (fun q => !(q.1 == i) && (!(q.1 == i + 1) && !(q.1 + 1 == i && q.2.category == 2))))) : lvs g ls' nL ((L.set i (some v)).set (i + 1) none) := by
  refine ⟨h.1, h.2.1, fun j w hw => ?_⟩
  by_cases e1 : i + 1 = j
  · subst e1
    rw [List.getElem?_set] at hw
    rw [if_pos rfl] at hw
    split at hw <;> cases hw
  · rw [List.getElem?_set_ne e1] at hw
    by_cases e : i = j
    · subst e
      rw [List.getElem?_set] at hw
      by_cases hl : i < L.length
      · rw [if_pos rfl, if_pos hl] at hw
        cases hw
        exact h.2.2 (i, cv g v) List.mem_cons_self
      · rw [if_pos rfl, if_neg hl] at hw
        cases hw
    · rw [List.getElem?_set_ne e] at hw
      refine h.2.2 (j, cv g w) (List.mem_cons_of_mem _ (List.mem_filter.mpr ⟨lvl_mem.mpr ⟨w, hw, rfl⟩, ?_⟩))
      have h1 : (j == i) = false := by simp [Ne.symm e]
      have h3 : (j == i + 1) = false := by simp [Ne.symm e1]
      have h2 : (j + 1 == i && (cv g w).category == 2) = false := by
        by_cases hj : j + 1 = i
        · by_cases hc : (cv g w).category = 2
          · obtain ⟨x, rfl⟩ := cv_cat g w hc
            subst hj
            exfalso
            simp [stOK, hw] at hs
          · simp [hc]
        · simp [hj]
      simp only [h1, h2, h3, Bool.not_false, Bool.and_self]

theorem r_iconst (M : Mk g own cc nL fr lo N K) {z : Int} (d : decode cc pc = .ok (.iconst z, 1)) (kk : K n (pc + 1) L (vI z :: st) S) : K n pc L (st) S :=
  M.go (fun p e R s m args below meth c A c0 s0 Q C H locs ls hW hS hL hn k => lv_iconst C.1 C.2.1 d rfl (k ls hL)) kk
theorem r_bipush (M : Mk g own cc nL fr lo N K) {z : Int} (d : decode cc pc = .ok (.bipush z, 2)) (h : (Int8.ofInt z).toInt32 = Int32.ofInt z) (kk : K n (pc + 2) L (vI z :: st) S) : K n pc L (st) S :=
  M.go (fun p e R s m args below meth c A c0 s0 Q C H locs ls hW hS hL hn k => lv_bipush C.1 C.2.1 d h (k ls hL)) kk
theorem r_sipush (M : Mk g own cc nL fr lo N K) {z : Int} (d : decode cc pc = .ok (.sipush z, 3)) (h : (Int16.ofInt z).toInt32 = Int32.ofInt z) (kk : K n (pc + 3) L (vI z :: st) S) : K n pc L (st) S :=
  M.go (fun p e R s m args below meth c A c0 s0 Q C H locs ls hW hS hL hn k => lv_sipush C.1 C.2.1 d h (k ls hL)) kk
theorem r_ldc (M : Mk g own cc nL fr lo N K) {ix : Nat} {v : Int32} (d : decode cc pc = .ok (.ldc ix, 2)) (hw : Jvm.Cond.constant own ix v ∈ WT) {z : Int} (h : v = Int32.ofInt z) (kk : K n (pc + 2) L (vI z :: st) S) : K n pc L (st) S :=
  M.go (fun p e R s m args below meth c A c0 s0 Q C H locs ls hW hS hL hn k => lv_ldc C.1 C.2.1 C.2.2.2.1 (C.2.2.2.2.1 _ hw) d (by subst h; exact k ls hL)) kk
theorem r_lconst0 (M : Mk g own cc nL fr lo N K) (d : decode cc pc = .ok (.lconst 0, 1)) (kk : K n (pc + 1) L (vL 0 :: st) S) : K n pc L (st) S :=
  M.go (fun p e R s m args below meth c A c0 s0 Q C H locs ls hW hS hL hn k => lv_lconst C.1 C.2.1 d rfl (k ls hL)) kk
theorem r_lconst1 (M : Mk g own cc nL fr lo N K) (d : decode cc pc = .ok (.lconst 1, 1)) (kk : K n (pc + 1) L (vL 1 :: st) S) : K n pc L (st) S :=
  M.go (fun p e R s m args below meth c A c0 s0 Q C H locs ls hW hS hL hn k => lv_lconst C.1 C.2.1 d rfl (k ls hL)) kk
theorem r_iload_n (M : Mk g own cc nL fr lo N K) {j : Fin 4} {x : Int} (d : decode cc pc = .ok (.iload_n j, 1)) (hl : L[(j : Nat)]? = some (some (vI x))) (kk : K n (pc + 1) L (vI x :: st) S) : K n pc L (st) S :=
  M.go (fun p e R s m args below meth c A c0 s0 Q C H locs ls hW hS hL hn k => lv_iload_n C.1 C.2.1 d rfl (hL.2.2 _ _ hl) (k ls hL)) kk
theorem r_iload (M : Mk g own cc nL fr lo N K) {j : Nat} {x : Int} (d : decode cc pc = .ok (.iload j, 2)) (hl : L[j]? = some (some (vI x))) (kk : K n (pc + 2) L (vI x :: st) S) : K n pc L (st) S :=
  M.go (fun p e R s m args below meth c A c0 s0 Q C H locs ls hW hS hL hn k => lv_iload C.1 C.2.1 d (hL.2.2 _ _ hl) (k ls hL)) kk
theorem r_lload_n (M : Mk g own cc nL fr lo N K) {j : Fin 4} {x : Int} (d : decode cc pc = .ok (.lload_n j, 1)) (hl : L[(j : Nat)]? = some (some (vL x))) (kk : K n (pc + 1) L (vL x :: st) S) : K n pc L (st) S :=
  M.go (fun p e R s m args below meth c A c0 s0 Q C H locs ls hW hS hL hn k => lv_lload_n C.1 C.2.1 d rfl (hL.2.2 _ _ hl) (k ls hL)) kk
theorem r_lload (M : Mk g own cc nL fr lo N K) {j : Nat} {x : Int} (d : decode cc pc = .ok (.lload j, 2)) (hl : L[j]? = some (some (vL x))) (kk : K n (pc + 2) L (vL x :: st) S) : K n pc L (st) S :=
  M.go (fun p e R s m args below meth c A c0 s0 Q C H locs ls hW hS hL hn k => lv_lload C.1 C.2.1 d (hL.2.2 _ _ hl) (k ls hL)) kk
theorem r_aload_n (M : Mk g own cc nL fr lo N K) {j : Fin 4} {t i : Nat} (d : decode cc pc = .ok (.aload_n j, 1)) (hl : L[(j : Nat)]? = some (some (vR t i))) (kk : K n (pc + 1) L (vR t i :: st) S) : K n pc L (st) S :=
  M.go (fun p e R s m args below meth c A c0 s0 Q C H locs ls hW hS hL hn k => lv_aload_n C.1 C.2.1 d rfl (hL.2.2 _ _ hl) (k ls hL)) kk
theorem r_aload (M : Mk g own cc nL fr lo N K) {j : Nat} {t i : Nat} (d : decode cc pc = .ok (.aload j, 2)) (hl : L[j]? = some (some (vR t i))) (kk : K n (pc + 2) L (vR t i :: st) S) : K n pc L (st) S :=
  M.go (fun p e R s m args below meth c A c0 s0 Q C H locs ls hW hS hL hn k => lv_aload C.1 C.2.1 d (hL.2.2 _ _ hl) (k ls hL)) kk
theorem r_istore_nG (M : Mk g own cc nL fr lo N K) {j : Fin 4} {x : Int} {L1 : List (Option AV)} (d : decode cc pc = .ok (.istore_n j, 1)) (hj : (j : Nat) < nL) (hs : stOK L j = true) (eL : L.set j (some (vI x)) = L1) (kk : K n (pc + 1) L1 (st) S) : K n pc L (vI x :: st) S :=
  M.go (fun p e R s m args below meth c A c0 s0 Q C H locs ls hW hS hL hn k => lv_istore_n C.1 C.2.1 d rfl hL.lv hj rfl (fun ls' h => k ls' (by subst eL; exact lvs.of1 (v := vI x) hs h))) kk
theorem r_istoreG (M : Mk g own cc nL fr lo N K) {j : Nat} {x : Int} {L1 : List (Option AV)} (d : decode cc pc = .ok (.istore j, 2)) (hj : j < nL) (hs : stOK L j = true) (eL : L.set j (some (vI x)) = L1) (kk : K n (pc + 2) L1 (st) S) : K n pc L (vI x :: st) S :=
  M.go (fun p e R s m args below meth c A c0 s0 Q C H locs ls hW hS hL hn k => lv_istore C.1 C.2.1 d hL.lv hj rfl (fun ls' h => k ls' (by subst eL; exact lvs.of1 (v := vI x) hs h))) kk
theorem r_astore_nG (M : Mk g own cc nL fr lo N K) {j : Fin 4} {t i : Nat} {L1 : List (Option AV)} (d : decode cc pc = .ok (.astore_n j, 1)) (hj : (j : Nat) < nL) (hs : stOK L j = true) (eL : L.set j (some (vR t i)) = L1) (kk : K n (pc + 1) L1 (st) S) : K n pc L (vR t i :: st) S :=
  M.go (fun p e R s m args below meth c A c0 s0 Q C H locs ls hW hS hL hn k => lv_astore_n C.1 C.2.1 d rfl hL.lv hj rfl (fun ls' h => k ls' (by subst eL; exact lvs.of1 (v := vR t i) hs h))) kk
theorem r_astoreG (M : Mk g own cc nL fr lo N K) {j : Nat} {t i : Nat} {L1 : List (Option AV)} (d : decode cc pc = .ok (.astore j, 2)) (hj : j < nL) (hs : stOK L j = true) (eL : L.set j (some (vR t i)) = L1) (kk : K n (pc + 2) L1 (st) S) : K n pc L (vR t i :: st) S :=
  M.go (fun p e R s m args below meth c A c0 s0 Q C H locs ls hW hS hL hn k => lv_astore C.1 C.2.1 d hL.lv hj rfl (fun ls' h => k ls' (by subst eL; exact lvs.of1 (v := vR t i) hs h))) kk
theorem r_xstore_nG (M : Mk g own cc nL fr lo N K) {j : Fin 4} {x : Nat} {L1 : List (Option AV)} (d : decode cc pc = .ok (.astore_n j, 1)) (hj : (j : Nat) < nL) (hs : stOK L j = true) (eL : L.set j (some (vX x)) = L1) (kk : K n (pc + 1) L1 (st) S) : K n pc L (vX x :: st) S :=
  M.go (fun p e R s m args below meth c A c0 s0 Q C H locs ls hW hS hL hn k => lv_astore_n C.1 C.2.1 d rfl hL.lv hj rfl (fun ls' h => k ls' (by subst eL; exact lvs.of1 (v := vX x) hs h))) kk
theorem r_xstoreG (M : Mk g own cc nL fr lo N K) {j : Nat} {x : Nat} {L1 : List (Option AV)} (d : decode cc pc = .ok (.astore j, 2)) (hj : j < nL) (hs : stOK L j = true) (eL : L.set j (some (vX x)) = L1) (kk : K n (pc + 2) L1 (st) S) : K n pc L (vX x :: st) S :=
  M.go (fun p e R s m args below meth c A c0 s0 Q C H locs ls hW hS hL hn k => lv_astore C.1 C.2.1 d hL.lv hj rfl (fun ls' h => k ls' (by subst eL; exact lvs.of1 (v := vX x) hs h))) kk
theorem r_lstore_nG (M : Mk g own cc nL fr lo N K) {j : Fin 4} {x : Int} {L1 : List (Option AV)} (d : decode cc pc = .ok (.lstore_n j, 1)) (hj : (j : Nat) + 1 < nL) (hs : stOK L j = true) (eL : (L.set j (some (vL x))).set (j + 1) none = L1) (kk : K n (pc + 1) L1 (st) S) : K n pc L (vL x :: st) S :=
  M.go (fun p e R s m args below meth c A c0 s0 Q C H locs ls hW hS hL hn k => lv_lstore_n C.1 C.2.1 d rfl hL.lv hj rfl (fun ls' h => k ls' (by subst eL; exact lvs.of2 (v := vL x) hs h))) kk
theorem r_lstoreG (M : Mk g own cc nL fr lo N K) {j : Nat} {x : Int} {L1 : List (Option AV)} (d : decode cc pc = .ok (.lstore j, 2)) (hj : j + 1 < nL) (hs : stOK L j = true) (eL : (L.set j (some (vL x))).set (j + 1) none = L1) (kk : K n (pc + 2) L1 (st) S) : K n pc L (vL x :: st) S :=
  M.go (fun p e R s m args below meth c A c0 s0 Q C H locs ls hW hS hL hn k => lv_lstore C.1 C.2.1 d hL.lv hj rfl (fun ls' h => k ls' (by subst eL; exact lvs.of2 (v := vL x) hs h))) kk
theorem r_iincG (M : Mk g own cc nL fr lo N K) {j : Nat} {z x y : Int} {L1 : List (Option AV)} (d : decode cc pc = .ok (.iinc j z, 3)) (hl : L[j]? = some (some (vI x))) (hy : x + z = y) (hj : j < nL) (hs : stOK L j = true) (eL : L.set j (some (vI y)) = L1) (kk : K n (pc + 3) L1 (st) S) : K n pc L (st) S :=
  M.go (fun p e R s m args below meth c A c0 s0 Q C H locs ls hW hS hL hn k => (by
    obtain ⟨q, hq⟩ := List.getElem?_of_mem (lvl_mem.mpr ⟨_, hl, rfl⟩ : (j, cv g (vI x)) ∈ lvl g L)
    exact lv_iinc (v := Int32.ofInt y) C.1 C.2.1 d hL.lv hq (by rw [← hy, Int32.ofInt_add]) hj rfl (fun ls' h => k ls' (by subst eL; exact lvs.of1 (v := vI y) hs h)))) kk
theorem r_iadd (M : Mk g own cc nL fr lo N K) {a b : Int} (d : decode cc pc = .ok (.iadd, 1)) (kk : K n (pc + 1) L (vI (a + b) :: st) S) : K n pc L (vI b :: vI a :: st) S :=
  M.go (fun p e R s m args below meth c A c0 s0 Q C H locs ls hW hS hL hn k => lv_iadd C.1 C.2.1 d (by have q := k ls hL; simp only [List.map_cons, cv, Int32.ofInt_add] at q; exact q)) kk
theorem r_isub (M : Mk g own cc nL fr lo N K) {a b : Int} (d : decode cc pc = .ok (.isub, 1)) (kk : K n (pc + 1) L (vI (a - b) :: st) S) : K n pc L (vI b :: vI a :: st) S :=
  M.go (fun p e R s m args below meth c A c0 s0 Q C H locs ls hW hS hL hn k => lv_isub C.1 C.2.1 d (by have q := k ls hL; simp only [List.map_cons, cv, Int32.ofInt_sub] at q; exact q)) kk
theorem r_imul (M : Mk g own cc nL fr lo N K) {a b : Int} (d : decode cc pc = .ok (.imul, 1)) (kk : K n (pc + 1) L (vI (a * b) :: st) S) : K n pc L (vI b :: vI a :: st) S :=
  M.go (fun p e R s m args below meth c A c0 s0 Q C H locs ls hW hS hL hn k => lv_imul C.1 C.2.1 d (by have q := k ls hL; simp only [List.map_cons, cv, Int32.ofInt_mul] at q; exact q)) kk
theorem r_ladd (M : Mk g own cc nL fr lo N K) {a b : Int} (d : decode cc pc = .ok (.ladd, 1)) (kk : K n (pc + 1) L (vL (a + b) :: st) S) : K n pc L (vL b :: vL a :: st) S :=
  M.go (fun p e R s m args below meth c A c0 s0 Q C H locs ls hW hS hL hn k => lv_ladd C.1 C.2.1 d (by have q := k ls hL; simp only [List.map_cons, cv, Int64.ofInt_add] at q; exact q)) kk
theorem r_lsub (M : Mk g own cc nL fr lo N K) {a b : Int} (d : decode cc pc = .ok (.lsub, 1)) (kk : K n (pc + 1) L (vL (a - b) :: st) S) : K n pc L (vL b :: vL a :: st) S :=
  M.go (fun p e R s m args below meth c A c0 s0 Q C H locs ls hW hS hL hn k => lv_lsub C.1 C.2.1 d (by have q := k ls hL; simp only [List.map_cons, cv, Int64.ofInt_sub] at q; exact q)) kk
theorem r_lmul (M : Mk g own cc nL fr lo N K) {a b : Int} (d : decode cc pc = .ok (.lmul, 1)) (kk : K n (pc + 1) L (vL (a * b) :: st) S) : K n pc L (vL b :: vL a :: st) S :=
  M.go (fun p e R s m args below meth c A c0 s0 Q C H locs ls hW hS hL hn k => lv_lmul C.1 C.2.1 d (by have q := k ls hL; simp only [List.map_cons, cv, Int64.ofInt_mul] at q; exact q)) kk
theorem r_ineg (M : Mk g own cc nL fr lo N K) {a : Int} (d : decode cc pc = .ok (.ineg, 1)) (kk : K n (pc + 1) L (vI (-a) :: st) S) : K n pc L (vI a :: st) S :=
  M.go (fun p e R s m args below meth c A c0 s0 Q C H locs ls hW hS hL hn k => lv_ineg C.1 C.2.1 d (by have q := k ls hL; simp only [List.map_cons, cv, Int32.ofInt_neg] at q; exact q)) kk
theorem r_idiv (M : Mk g own cc nL fr lo N K) {a b : Int} (d : decode cc pc = .ok (.idiv, 1)) (h : (0 ≤ a ∧ a ≤ 2147483647) ∧ 0 < b ∧ b ≤ 2147483647) (kk : K n (pc + 1) L (vI (a / b) :: st) S) : K n pc L (vI b :: vI a :: st) S :=
  M.go (fun p e R s m args below meth c A c0 s0 Q C H locs ls hW hS hL hn k => lv_idiv C.1 C.2.1 d (divI_ne h) (by rw [divI h]; exact k ls hL)) kk
theorem r_ldiv (M : Mk g own cc nL fr lo N K) {a b : Int} (d : decode cc pc = .ok (.ldiv, 1)) (h : (0 ≤ a ∧ a ≤ 9223372036854775807) ∧ 0 < b ∧ b ≤ 9223372036854775807) (kk : K n (pc + 1) L (vL (a / b) :: st) S) : K n pc L (vL b :: vL a :: st) S :=
  M.go (fun p e R s m args below meth c A c0 s0 Q C H locs ls hW hS hL hn k => lv_ldiv C.1 C.2.1 d (divL_ne h) (by rw [divL h]; exact k ls hL)) kk
theorem r_i2l (M : Mk g own cc nL fr lo N K) {a : Int} (d : decode cc pc = .ok (.i2l, 1)) (h : -2147483648 ≤ a ∧ a ≤ 2147483647) (kk : K n (pc + 1) L (vL a :: st) S) : K n pc L (vI a :: st) S :=
  M.go (fun p e R s m args below meth c A c0 s0 Q C H locs ls hW hS hL hn k => lv_i2l C.1 C.2.1 d (i2lI h) (k ls hL)) kk
theorem r_l2i (M : Mk g own cc nL fr lo N K) {a : Int} (d : decode cc pc = .ok (.l2i, 1)) (kk : K n (pc + 1) L (vI a :: st) S) : K n pc L (vL a :: st) S :=
  M.go (fun p e R s m args below meth c A c0 s0 Q C H locs ls hW hS hL hn k => lv_l2i C.1 C.2.1 d (l2iI a) (k ls hL)) kk
theorem r_lcmp (M : Mk g own cc nL fr lo N K) {a b : Int} (d : decode cc pc = .ok (.lcmp, 1)) (h : (-9223372036854775808 ≤ a ∧ a ≤ 9223372036854775807) ∧ -9223372036854775808 ≤ b ∧ b ≤ 9223372036854775807) (kk : K n (pc + 1) L (vI (if b < a then 1 else if a = b then 0 else -1) :: st) S) : K n pc L (vL b :: vL a :: st) S :=
  M.go (fun p e R s m args below meth c A c0 s0 Q C H locs ls hW hS hL hn k => W.lcmp C.1 C.2.1 d (by rw [lcmpI h]; exact k ls hL)) kk
theorem r_dupR (M : Mk g own cc nL fr lo N K) {t i : Nat} (d : decode cc pc = .ok (.dup, 1)) (kk : K n (pc + 1) L (vR t i :: vR t i :: st) S) : K n pc L (vR t i :: st) S :=
  M.go (fun p e R s m args below meth c A c0 s0 Q C H locs ls hW hS hL hn k => lv_dup C.1 C.2.1 d rfl (k ls hL)) kk
theorem r_dupI (M : Mk g own cc nL fr lo N K) {a : Int} (d : decode cc pc = .ok (.dup, 1)) (kk : K n (pc + 1) L (vI a :: vI a :: st) S) : K n pc L (vI a :: st) S :=
  M.go (fun p e R s m args below meth c A c0 s0 Q C H locs ls hW hS hL hn k => lv_dup C.1 C.2.1 d rfl (k ls hL)) kk
theorem r_pop (M : Mk g own cc nL fr lo N K) {a : Int} (d : decode cc pc = .ok (.pop, 1)) (kk : K n (pc + 1) L (st) S) : K n pc L (vI a :: st) S :=
  M.go (fun p e R s m args below meth c A c0 s0 Q C H locs ls hW hS hL hn k => lv_pop C.1 C.2.1 d rfl (k ls hL)) kk
theorem r_dup2 (M : Mk g own cc nL fr lo N K) {a : Int} {t i : Nat} (d : decode cc pc = .ok (.dup2, 1)) (kk : K n (pc + 1) L (vI a :: vR t i :: vI a :: vR t i :: st) S) : K n pc L (vI a :: vR t i :: st) S :=
  M.go (fun p e R s m args below meth c A c0 s0 Q C H locs ls hW hS hL hn k => lv_dup2_11 C.1 C.2.1 d rfl rfl (k ls hL)) kk
theorem r_goto (M : Mk g own cc nL fr lo N K) {off : Int} {tgt : Nat} (d : decode cc pc = .ok (.goto off, 3)) (ht : (pc : Int) + off = (tgt : Int)) (kk : K n (tgt) L (st) S) : K n pc L (st) S :=
  M.go (fun p e R s m args below meth c A c0 s0 Q C H locs ls hW hS hL hn k => lv_goto C.1 C.2.1 d ht (k ls hL)) kk
theorem r_icmp_ge (M : Mk g own cc nL fr lo N K) {a b off : Int} {tgt : Nat} (d : decode cc pc = .ok (.if_icmp .ge off, 3)) (ht : (pc : Int) + off = (tgt : Int)) (h : (-2147483648 ≤ a ∧ a ≤ 2147483647) ∧ -2147483648 ≤ b ∧ b ≤ 2147483647) (k1 : b ≤ a → K n tgt L st S) (k2 : a < b → K n (pc + 3) L st S) : K n pc L (vI b :: vI a :: st) S :=
  M.two (fun p e R s m args below meth c A c0 s0 Q C H locs ls k1 k2 => lv_icmp_ge C.1 C.2.1 d ht (fun q => k1 ((ofI_le h.2 h.1).mp q)) (fun q => k2 (Int.not_le.mp (fun w => q ((ofI_le h.2 h.1).mpr w))))) k1 k2
theorem r_icmp_lt (M : Mk g own cc nL fr lo N K) {a b off : Int} {tgt : Nat} (d : decode cc pc = .ok (.if_icmp .lt off, 3)) (ht : (pc : Int) + off = (tgt : Int)) (h : (-2147483648 ≤ a ∧ a ≤ 2147483647) ∧ -2147483648 ≤ b ∧ b ≤ 2147483647) (k1 : a < b → K n tgt L st S) (k2 : b ≤ a → K n (pc + 3) L st S) : K n pc L (vI b :: vI a :: st) S :=
  M.two (fun p e R s m args below meth c A c0 s0 Q C H locs ls k1 k2 => lv_icmp_lt C.1 C.2.1 d ht (fun q => k1 ((ofI_lt h.1 h.2).mp q)) (fun q => k2 (Int.not_lt.mp (fun w => q ((ofI_lt h.1 h.2).mpr w))))) k1 k2
theorem r_icmp_le (M : Mk g own cc nL fr lo N K) {a b off : Int} {tgt : Nat} (d : decode cc pc = .ok (.if_icmp .le off, 3)) (ht : (pc : Int) + off = (tgt : Int)) (h : (-2147483648 ≤ a ∧ a ≤ 2147483647) ∧ -2147483648 ≤ b ∧ b ≤ 2147483647) (k1 : a ≤ b → K n tgt L st S) (k2 : b < a → K n (pc + 3) L st S) : K n pc L (vI b :: vI a :: st) S :=
  M.two (fun p e R s m args below meth c A c0 s0 Q C H locs ls k1 k2 => lv_icmp_le C.1 C.2.1 d ht (fun q => k1 ((ofI_le h.1 h.2).mp q)) (fun q => k2 (Int.not_le.mp (fun w => q ((ofI_le h.1 h.2).mpr w))))) k1 k2
theorem r_icmp_gt (M : Mk g own cc nL fr lo N K) {a b off : Int} {tgt : Nat} (d : decode cc pc = .ok (.if_icmp .gt off, 3)) (ht : (pc : Int) + off = (tgt : Int)) (h : (-2147483648 ≤ a ∧ a ≤ 2147483647) ∧ -2147483648 ≤ b ∧ b ≤ 2147483647) (k1 : b < a → K n tgt L st S) (k2 : a ≤ b → K n (pc + 3) L st S) : K n pc L (vI b :: vI a :: st) S :=
  M.two (fun p e R s m args below meth c A c0 s0 Q C H locs ls k1 k2 => lv_icmp_gt C.1 C.2.1 d ht (fun q => k1 ((ofI_lt h.2 h.1).mp q)) (fun q => k2 (Int.not_lt.mp (fun w => q ((ofI_lt h.2 h.1).mpr w))))) k1 k2
theorem r_icmp_eq (M : Mk g own cc nL fr lo N K) {a b off : Int} {tgt : Nat} (d : decode cc pc = .ok (.if_icmp .eq off, 3)) (ht : (pc : Int) + off = (tgt : Int)) (h : (-2147483648 ≤ a ∧ a ≤ 2147483647) ∧ -2147483648 ≤ b ∧ b ≤ 2147483647) (k1 : a = b → K n tgt L st S) (k2 : a ≠ b → K n (pc + 3) L st S) : K n pc L (vI b :: vI a :: st) S :=
  M.two (fun p e R s m args below meth c A c0 s0 Q C H locs ls k1 k2 => lv_icmp_eq C.1 C.2.1 d ht (fun q => k1 ((ofI_eq h.1 h.2).mp q)) (fun q => k2 (fun w => q ((ofI_eq h.1 h.2).mpr w)))) k1 k2
theorem r_icmp_ne (M : Mk g own cc nL fr lo N K) {a b off : Int} {tgt : Nat} (d : decode cc pc = .ok (.if_icmp .ne off, 3)) (ht : (pc : Int) + off = (tgt : Int)) (h : (-2147483648 ≤ a ∧ a ≤ 2147483647) ∧ -2147483648 ≤ b ∧ b ≤ 2147483647) (k1 : a ≠ b → K n tgt L st S) (k2 : a = b → K n (pc + 3) L st S) : K n pc L (vI b :: vI a :: st) S :=
  M.two (fun p e R s m args below meth c A c0 s0 Q C H locs ls k1 k2 => lv_icmp_ne C.1 C.2.1 d ht (fun q => k1 (fun w => q ((ofI_eq h.1 h.2).mpr w))) (fun q => k2 (Classical.byContradiction fun w => w ((ofI_eq h.1 h.2).mp (by first | exact q | exact Classical.not_not.mp q))))) k1 k2
theorem r_if_ge (M : Mk g own cc nL fr lo N K) {a off : Int} {tgt : Nat} (d : decode cc pc = .ok (.ifCond .ge off, 3)) (ht : (pc : Int) + off = (tgt : Int)) (h : -2147483648 ≤ a ∧ a ≤ 2147483647) (k1 : 0 ≤ a → K n tgt L st S) (k2 : a < 0 → K n (pc + 3) L st S) : K n pc L (vI a :: st) S :=
  M.two (fun p e R s m args below meth c A c0 s0 Q C H locs ls k1 k2 => lv_if_ge C.1 C.2.1 d ht (fun q => k1 ((ofI_le (⟨by omega, by omega⟩ : (-2147483648 : Int) ≤ 0 ∧ (0 : Int) ≤ 2147483647) h).mp q)) (fun q => k2 (Int.not_le.mp (fun w => q ((ofI_le (⟨by omega, by omega⟩ : (-2147483648 : Int) ≤ 0 ∧ (0 : Int) ≤ 2147483647) h).mpr w))))) k1 k2
theorem r_if_lt (M : Mk g own cc nL fr lo N K) {a off : Int} {tgt : Nat} (d : decode cc pc = .ok (.ifCond .lt off, 3)) (ht : (pc : Int) + off = (tgt : Int)) (h : -2147483648 ≤ a ∧ a ≤ 2147483647) (k1 : a < 0 → K n tgt L st S) (k2 : 0 ≤ a → K n (pc + 3) L st S) : K n pc L (vI a :: st) S :=
  M.two (fun p e R s m args below meth c A c0 s0 Q C H locs ls k1 k2 => lv_if_lt C.1 C.2.1 d ht (fun q => k1 ((ofI_lt h (⟨by omega, by omega⟩ : (-2147483648 : Int) ≤ 0 ∧ (0 : Int) ≤ 2147483647)).mp q)) (fun q => k2 (Int.not_lt.mp (fun w => q ((ofI_lt h (⟨by omega, by omega⟩ : (-2147483648 : Int) ≤ 0 ∧ (0 : Int) ≤ 2147483647)).mpr w))))) k1 k2
theorem r_if_le (M : Mk g own cc nL fr lo N K) {a off : Int} {tgt : Nat} (d : decode cc pc = .ok (.ifCond .le off, 3)) (ht : (pc : Int) + off = (tgt : Int)) (h : -2147483648 ≤ a ∧ a ≤ 2147483647) (k1 : a ≤ 0 → K n tgt L st S) (k2 : 0 < a → K n (pc + 3) L st S) : K n pc L (vI a :: st) S :=
  M.two (fun p e R s m args below meth c A c0 s0 Q C H locs ls k1 k2 => lv_if_le C.1 C.2.1 d ht (fun q => k1 ((ofI_le h (⟨by omega, by omega⟩ : (-2147483648 : Int) ≤ 0 ∧ (0 : Int) ≤ 2147483647)).mp q)) (fun q => k2 (Int.not_le.mp (fun w => q ((ofI_le h (⟨by omega, by omega⟩ : (-2147483648 : Int) ≤ 0 ∧ (0 : Int) ≤ 2147483647)).mpr w))))) k1 k2
theorem r_if_gt (M : Mk g own cc nL fr lo N K) {a off : Int} {tgt : Nat} (d : decode cc pc = .ok (.ifCond .gt off, 3)) (ht : (pc : Int) + off = (tgt : Int)) (h : -2147483648 ≤ a ∧ a ≤ 2147483647) (k1 : 0 < a → K n tgt L st S) (k2 : a ≤ 0 → K n (pc + 3) L st S) : K n pc L (vI a :: st) S :=
  M.two (fun p e R s m args below meth c A c0 s0 Q C H locs ls k1 k2 => lv_if_gt C.1 C.2.1 d ht (fun q => k1 ((ofI_lt (⟨by omega, by omega⟩ : (-2147483648 : Int) ≤ 0 ∧ (0 : Int) ≤ 2147483647) h).mp q)) (fun q => k2 (Int.not_lt.mp (fun w => q ((ofI_lt (⟨by omega, by omega⟩ : (-2147483648 : Int) ≤ 0 ∧ (0 : Int) ≤ 2147483647) h).mpr w))))) k1 k2
theorem r_if_eq (M : Mk g own cc nL fr lo N K) {a off : Int} {tgt : Nat} (d : decode cc pc = .ok (.ifCond .eq off, 3)) (ht : (pc : Int) + off = (tgt : Int)) (h : -2147483648 ≤ a ∧ a ≤ 2147483647) (k1 : a = 0 → K n tgt L st S) (k2 : a ≠ 0 → K n (pc + 3) L st S) : K n pc L (vI a :: st) S :=
  M.two (fun p e R s m args below meth c A c0 s0 Q C H locs ls k1 k2 => lv_if_eq C.1 C.2.1 d ht (fun q => k1 ((ofI_eq h (⟨by omega, by omega⟩ : (-2147483648 : Int) ≤ 0 ∧ (0 : Int) ≤ 2147483647)).mp q)) (fun q => k2 (fun w => q ((ofI_eq h (⟨by omega, by omega⟩ : (-2147483648 : Int) ≤ 0 ∧ (0 : Int) ≤ 2147483647)).mpr w)))) k1 k2
theorem r_if_ne (M : Mk g own cc nL fr lo N K) {a off : Int} {tgt : Nat} (d : decode cc pc = .ok (.ifCond .ne off, 3)) (ht : (pc : Int) + off = (tgt : Int)) (h : -2147483648 ≤ a ∧ a ≤ 2147483647) (k1 : a ≠ 0 → K n tgt L st S) (k2 : a = 0 → K n (pc + 3) L st S) : K n pc L (vI a :: st) S :=
  M.two (fun p e R s m args below meth c A c0 s0 Q C H locs ls k1 k2 => lv_if_ne C.1 C.2.1 d ht (fun q => k1 (fun w => q ((ofI_eq h (⟨by omega, by omega⟩ : (-2147483648 : Int) ≤ 0 ∧ (0 : Int) ≤ 2147483647)).mpr w))) (fun q => k2 ((ofI_eq h (⟨by omega, by omega⟩ : (-2147483648 : Int) ≤ 0 ∧ (0 : Int) ≤ 2147483647)).mp q))) k1 k2
theorem r_istore_0 (M : Mk g own cc nL fr lo N K) {w : Option AV} {T : List (Option AV)} {x : Int} (d : decode cc pc = .ok (.istore_n 0, 1)) (hj : 0 < nL) (hs : stOK (w :: T) 0 = true) (kk : K n (pc + 1) (some (vI x) :: T) st S) : K n pc (w :: T) (vI x :: st) S := r_istore_nG M d hj hs rfl kk
theorem r_astore_0 (M : Mk g own cc nL fr lo N K) {w : Option AV} {T : List (Option AV)} {t i : Nat} (d : decode cc pc = .ok (.astore_n 0, 1)) (hj : 0 < nL) (hs : stOK (w :: T) 0 = true) (kk : K n (pc + 1) (some (vR t i) :: T) st S) : K n pc (w :: T) (vR t i :: st) S := r_astore_nG M d hj hs rfl kk
theorem r_xstore_0 (M : Mk g own cc nL fr lo N K) {w : Option AV} {T : List (Option AV)} {x : Nat} (d : decode cc pc = .ok (.astore_n 0, 1)) (hj : 0 < nL) (hs : stOK (w :: T) 0 = true) (kk : K n (pc + 1) (some (vX x) :: T) st S) : K n pc (w :: T) (vX x :: st) S := r_xstore_nG M d hj hs rfl kk
theorem r_lstore_0 (M : Mk g own cc nL fr lo N K) {w : Option AV} {w2 : Option AV} {T : List (Option AV)} {x : Int} (d : decode cc pc = .ok (.lstore_n 0, 1)) (hj : 0 + 1 < nL) (hs : stOK (w :: w2 :: T) 0 = true) (kk : K n (pc + 1) (some (vL x) :: none :: T) st S) : K n pc (w :: w2 :: T) (vL x :: st) S := r_lstore_nG M d hj hs rfl kk
theorem r_iinc_0 (M : Mk g own cc nL fr lo N K) {T : List (Option AV)} {x z : Int} (y : Int) (d : decode cc pc = .ok (.iinc 0 z, 3)) (hy : x + z = y) (hj : 0 < nL) (hs : stOK (some (vI x) :: T) 0 = true) (kk : K n (pc + 3) (some (vI y) :: T) st S) : K n pc (some (vI x) :: T) st S := r_iincG M d rfl hy hj hs rfl kk
theorem r_istore_1 (M : Mk g own cc nL fr lo N K) {a0 w : Option AV} {T : List (Option AV)} {x : Int} (d : decode cc pc = .ok (.istore_n 1, 1)) (hj : 1 < nL) (hs : stOK (a0 :: w :: T) 1 = true) (kk : K n (pc + 1) (a0 :: some (vI x) :: T) st S) : K n pc (a0 :: w :: T) (vI x :: st) S := r_istore_nG M d hj hs rfl kk
theorem r_astore_1 (M : Mk g own cc nL fr lo N K) {a0 w : Option AV} {T : List (Option AV)} {t i : Nat} (d : decode cc pc = .ok (.astore_n 1, 1)) (hj : 1 < nL) (hs : stOK (a0 :: w :: T) 1 = true) (kk : K n (pc + 1) (a0 :: some (vR t i) :: T) st S) : K n pc (a0 :: w :: T) (vR t i :: st) S := r_astore_nG M d hj hs rfl kk
theorem r_xstore_1 (M : Mk g own cc nL fr lo N K) {a0 w : Option AV} {T : List (Option AV)} {x : Nat} (d : decode cc pc = .ok (.astore_n 1, 1)) (hj : 1 < nL) (hs : stOK (a0 :: w :: T) 1 = true) (kk : K n (pc + 1) (a0 :: some (vX x) :: T) st S) : K n pc (a0 :: w :: T) (vX x :: st) S := r_xstore_nG M d hj hs rfl kk
theorem r_lstore_1 (M : Mk g own cc nL fr lo N K) {a0 w : Option AV} {w2 : Option AV} {T : List (Option AV)} {x : Int} (d : decode cc pc = .ok (.lstore_n 1, 1)) (hj : 1 + 1 < nL) (hs : stOK (a0 :: w :: w2 :: T) 1 = true) (kk : K n (pc + 1) (a0 :: some (vL x) :: none :: T) st S) : K n pc (a0 :: w :: w2 :: T) (vL x :: st) S := r_lstore_nG M d hj hs rfl kk
theorem r_iinc_1 (M : Mk g own cc nL fr lo N K) {a0 : Option AV} {T : List (Option AV)} {x z : Int} (y : Int) (d : decode cc pc = .ok (.iinc 1 z, 3)) (hy : x + z = y) (hj : 1 < nL) (hs : stOK (a0 :: some (vI x) :: T) 1 = true) (kk : K n (pc + 3) (a0 :: some (vI y) :: T) st S) : K n pc (a0 :: some (vI x) :: T) st S := r_iincG M d rfl hy hj hs rfl kk
theorem r_istore_2 (M : Mk g own cc nL fr lo N K) {a0 a1 w : Option AV} {T : List (Option AV)} {x : Int} (d : decode cc pc = .ok (.istore_n 2, 1)) (hj : 2 < nL) (hs : stOK (a0 :: a1 :: w :: T) 2 = true) (kk : K n (pc + 1) (a0 :: a1 :: some (vI x) :: T) st S) : K n pc (a0 :: a1 :: w :: T) (vI x :: st) S := r_istore_nG M d hj hs rfl kk
theorem r_astore_2 (M : Mk g own cc nL fr lo N K) {a0 a1 w : Option AV} {T : List (Option AV)} {t i : Nat} (d : decode cc pc = .ok (.astore_n 2, 1)) (hj : 2 < nL) (hs : stOK (a0 :: a1 :: w :: T) 2 = true) (kk : K n (pc + 1) (a0 :: a1 :: some (vR t i) :: T) st S) : K n pc (a0 :: a1 :: w :: T) (vR t i :: st) S := r_astore_nG M d hj hs rfl kk
theorem r_xstore_2 (M : Mk g own cc nL fr lo N K) {a0 a1 w : Option AV} {T : List (Option AV)} {x : Nat} (d : decode cc pc = .ok (.astore_n 2, 1)) (hj : 2 < nL) (hs : stOK (a0 :: a1 :: w :: T) 2 = true) (kk : K n (pc + 1) (a0 :: a1 :: some (vX x) :: T) st S) : K n pc (a0 :: a1 :: w :: T) (vX x :: st) S := r_xstore_nG M d hj hs rfl kk
theorem r_lstore_2 (M : Mk g own cc nL fr lo N K) {a0 a1 w : Option AV} {w2 : Option AV} {T : List (Option AV)} {x : Int} (d : decode cc pc = .ok (.lstore_n 2, 1)) (hj : 2 + 1 < nL) (hs : stOK (a0 :: a1 :: w :: w2 :: T) 2 = true) (kk : K n (pc + 1) (a0 :: a1 :: some (vL x) :: none :: T) st S) : K n pc (a0 :: a1 :: w :: w2 :: T) (vL x :: st) S := r_lstore_nG M d hj hs rfl kk
theorem r_iinc_2 (M : Mk g own cc nL fr lo N K) {a0 a1 : Option AV} {T : List (Option AV)} {x z : Int} (y : Int) (d : decode cc pc = .ok (.iinc 2 z, 3)) (hy : x + z = y) (hj : 2 < nL) (hs : stOK (a0 :: a1 :: some (vI x) :: T) 2 = true) (kk : K n (pc + 3) (a0 :: a1 :: some (vI y) :: T) st S) : K n pc (a0 :: a1 :: some (vI x) :: T) st S := r_iincG M d rfl hy hj hs rfl kk
theorem r_istore_3 (M : Mk g own cc nL fr lo N K) {a0 a1 a2 w : Option AV} {T : List (Option AV)} {x : Int} (d : decode cc pc = .ok (.istore_n 3, 1)) (hj : 3 < nL) (hs : stOK (a0 :: a1 :: a2 :: w :: T) 3 = true) (kk : K n (pc + 1) (a0 :: a1 :: a2 :: some (vI x) :: T) st S) : K n pc (a0 :: a1 :: a2 :: w :: T) (vI x :: st) S := r_istore_nG M d hj hs rfl kk
theorem r_astore_3 (M : Mk g own cc nL fr lo N K) {a0 a1 a2 w : Option AV} {T : List (Option AV)} {t i : Nat} (d : decode cc pc = .ok (.astore_n 3, 1)) (hj : 3 < nL) (hs : stOK (a0 :: a1 :: a2 :: w :: T) 3 = true) (kk : K n (pc + 1) (a0 :: a1 :: a2 :: some (vR t i) :: T) st S) : K n pc (a0 :: a1 :: a2 :: w :: T) (vR t i :: st) S := r_astore_nG M d hj hs rfl kk
theorem r_xstore_3 (M : Mk g own cc nL fr lo N K) {a0 a1 a2 w : Option AV} {T : List (Option AV)} {x : Nat} (d : decode cc pc = .ok (.astore_n 3, 1)) (hj : 3 < nL) (hs : stOK (a0 :: a1 :: a2 :: w :: T) 3 = true) (kk : K n (pc + 1) (a0 :: a1 :: a2 :: some (vX x) :: T) st S) : K n pc (a0 :: a1 :: a2 :: w :: T) (vX x :: st) S := r_xstore_nG M d hj hs rfl kk
theorem r_lstore_3 (M : Mk g own cc nL fr lo N K) {a0 a1 a2 w : Option AV} {w2 : Option AV} {T : List (Option AV)} {x : Int} (d : decode cc pc = .ok (.lstore_n 3, 1)) (hj : 3 + 1 < nL) (hs : stOK (a0 :: a1 :: a2 :: w :: w2 :: T) 3 = true) (kk : K n (pc + 1) (a0 :: a1 :: a2 :: some (vL x) :: none :: T) st S) : K n pc (a0 :: a1 :: a2 :: w :: w2 :: T) (vL x :: st) S := r_lstore_nG M d hj hs rfl kk
theorem r_iinc_3 (M : Mk g own cc nL fr lo N K) {a0 a1 a2 : Option AV} {T : List (Option AV)} {x z : Int} (y : Int) (d : decode cc pc = .ok (.iinc 3 z, 3)) (hy : x + z = y) (hj : 3 < nL) (hs : stOK (a0 :: a1 :: a2 :: some (vI x) :: T) 3 = true) (kk : K n (pc + 3) (a0 :: a1 :: a2 :: some (vI y) :: T) st S) : K n pc (a0 :: a1 :: a2 :: some (vI x) :: T) st S := r_iincG M d rfl hy hj hs rfl kk
theorem r_istore_4 (M : Mk g own cc nL fr lo N K) {a0 a1 a2 a3 w : Option AV} {T : List (Option AV)} {x : Int} (d : decode cc pc = .ok (.istore 4, 2)) (hj : 4 < nL) (hs : stOK (a0 :: a1 :: a2 :: a3 :: w :: T) 4 = true) (kk : K n (pc + 2) (a0 :: a1 :: a2 :: a3 :: some (vI x) :: T) st S) : K n pc (a0 :: a1 :: a2 :: a3 :: w :: T) (vI x :: st) S := r_istoreG M d hj hs rfl kk
theorem r_astore_4 (M : Mk g own cc nL fr lo N K) {a0 a1 a2 a3 w : Option AV} {T : List (Option AV)} {t i : Nat} (d : decode cc pc = .ok (.astore 4, 2)) (hj : 4 < nL) (hs : stOK (a0 :: a1 :: a2 :: a3 :: w :: T) 4 = true) (kk : K n (pc + 2) (a0 :: a1 :: a2 :: a3 :: some (vR t i) :: T) st S) : K n pc (a0 :: a1 :: a2 :: a3 :: w :: T) (vR t i :: st) S := r_astoreG M d hj hs rfl kk
theorem r_xstore_4 (M : Mk g own cc nL fr lo N K) {a0 a1 a2 a3 w : Option AV} {T : List (Option AV)} {x : Nat} (d : decode cc pc = .ok (.astore 4, 2)) (hj : 4 < nL) (hs : stOK (a0 :: a1 :: a2 :: a3 :: w :: T) 4 = true) (kk : K n (pc + 2) (a0 :: a1 :: a2 :: a3 :: some (vX x) :: T) st S) : K n pc (a0 :: a1 :: a2 :: a3 :: w :: T) (vX x :: st) S := r_xstoreG M d hj hs rfl kk
theorem r_lstore_4 (M : Mk g own cc nL fr lo N K) {a0 a1 a2 a3 w : Option AV} {w2 : Option AV} {T : List (Option AV)} {x : Int} (d : decode cc pc = .ok (.lstore 4, 2)) (hj : 4 + 1 < nL) (hs : stOK (a0 :: a1 :: a2 :: a3 :: w :: w2 :: T) 4 = true) (kk : K n (pc + 2) (a0 :: a1 :: a2 :: a3 :: some (vL x) :: none :: T) st S) : K n pc (a0 :: a1 :: a2 :: a3 :: w :: w2 :: T) (vL x :: st) S := r_lstoreG M d hj hs rfl kk
theorem r_iinc_4 (M : Mk g own cc nL fr lo N K) {a0 a1 a2 a3 : Option AV} {T : List (Option AV)} {x z : Int} (y : Int) (d : decode cc pc = .ok (.iinc 4 z, 3)) (hy : x + z = y) (hj : 4 < nL) (hs : stOK (a0 :: a1 :: a2 :: a3 :: some (vI x) :: T) 4 = true) (kk : K n (pc + 3) (a0 :: a1 :: a2 :: a3 :: some (vI y) :: T) st S) : K n pc (a0 :: a1 :: a2 :: a3 :: some (vI x) :: T) st S := r_iincG M d rfl hy hj hs rfl kk
theorem r_istore_5 (M : Mk g own cc nL fr lo N K) {a0 a1 a2 a3 a4 w : Option AV} {T : List (Option AV)} {x : Int} (d : decode cc pc = .ok (.istore 5, 2)) (hj : 5 < nL) (hs : stOK (a0 :: a1 :: a2 :: a3 :: a4 :: w :: T) 5 = true) (kk : K n (pc + 2) (a0 :: a1 :: a2 :: a3 :: a4 :: some (vI x) :: T) st S) : K n pc (a0 :: a1 :: a2 :: a3 :: a4 :: w :: T) (vI x :: st) S := r_istoreG M d hj hs rfl kk
theorem r_astore_5 (M : Mk g own cc nL fr lo N K) {a0 a1 a2 a3 a4 w : Option AV} {T : List (Option AV)} {t i : Nat} (d : decode cc pc = .ok (.astore 5, 2)) (hj : 5 < nL) (hs : stOK (a0 :: a1 :: a2 :: a3 :: a4 :: w :: T) 5 = true) (kk : K n (pc + 2) (a0 :: a1 :: a2 :: a3 :: a4 :: some (vR t i) :: T) st S) : K n pc (a0 :: a1 :: a2 :: a3 :: a4 :: w :: T) (vR t i :: st) S := r_astoreG M d hj hs rfl kk
theorem r_xstore_5 (M : Mk g own cc nL fr lo N K) {a0 a1 a2 a3 a4 w : Option AV} {T : List (Option AV)} {x : Nat} (d : decode cc pc = .ok (.astore 5, 2)) (hj : 5 < nL) (hs : stOK (a0 :: a1 :: a2 :: a3 :: a4 :: w :: T) 5 = true) (kk : K n (pc + 2) (a0 :: a1 :: a2 :: a3 :: a4 :: some (vX x) :: T) st S) : K n pc (a0 :: a1 :: a2 :: a3 :: a4 :: w :: T) (vX x :: st) S := r_xstoreG M d hj hs rfl kk
theorem r_lstore_5 (M : Mk g own cc nL fr lo N K) {a0 a1 a2 a3 a4 w : Option AV} {w2 : Option AV} {T : List (Option AV)} {x : Int} (d : decode cc pc = .ok (.lstore 5, 2)) (hj : 5 + 1 < nL) (hs : stOK (a0 :: a1 :: a2 :: a3 :: a4 :: w :: w2 :: T) 5 = true) (kk : K n (pc + 2) (a0 :: a1 :: a2 :: a3 :: a4 :: some (vL x) :: none :: T) st S) : K n pc (a0 :: a1 :: a2 :: a3 :: a4 :: w :: w2 :: T) (vL x :: st) S := r_lstoreG M d hj hs rfl kk
theorem r_iinc_5 (M : Mk g own cc nL fr lo N K) {a0 a1 a2 a3 a4 : Option AV} {T : List (Option AV)} {x z : Int} (y : Int) (d : decode cc pc = .ok (.iinc 5 z, 3)) (hy : x + z = y) (hj : 5 < nL) (hs : stOK (a0 :: a1 :: a2 :: a3 :: a4 :: some (vI x) :: T) 5 = true) (kk : K n (pc + 3) (a0 :: a1 :: a2 :: a3 :: a4 :: some (vI y) :: T) st S) : K n pc (a0 :: a1 :: a2 :: a3 :: a4 :: some (vI x) :: T) st S := r_iincG M d rfl hy hj hs rfl kk
theorem r_istore_6 (M : Mk g own cc nL fr lo N K) {a0 a1 a2 a3 a4 a5 w : Option AV} {T : List (Option AV)} {x : Int} (d : decode cc pc = .ok (.istore 6, 2)) (hj : 6 < nL) (hs : stOK (a0 :: a1 :: a2 :: a3 :: a4 :: a5 :: w :: T) 6 = true) (kk : K n (pc + 2) (a0 :: a1 :: a2 :: a3 :: a4 :: a5 :: some (vI x) :: T) st S) : K n pc (a0 :: a1 :: a2 :: a3 :: a4 :: a5 :: w :: T) (vI x :: st) S := r_istoreG M d hj hs rfl kk
theorem r_astore_6 (M : Mk g own cc nL fr lo N K) {a0 a1 a2 a3 a4 a5 w : Option AV} {T : List (Option AV)} {t i : Nat} (d : decode cc pc = .ok (.astore 6, 2)) (hj : 6 < nL) (hs : stOK (a0 :: a1 :: a2 :: a3 :: a4 :: a5 :: w :: T) 6 = true) (kk : K n (pc + 2) (a0 :: a1 :: a2 :: a3 :: a4 :: a5 :: some (vR t i) :: T) st S) : K n pc (a0 :: a1 :: a2 :: a3 :: a4 :: a5 :: w :: T) (vR t i :: st) S := r_astoreG M d hj hs rfl kk
theorem r_xstore_6 (M : Mk g own cc nL fr lo N K) {a0 a1 a2 a3 a4 a5 w : Option AV} {T : List (Option AV)} {x : Nat} (d : decode cc pc = .ok (.astore 6, 2)) (hj : 6 < nL) (hs : stOK (a0 :: a1 :: a2 :: a3 :: a4 :: a5 :: w :: T) 6 = true) (kk : K n (pc + 2) (a0 :: a1 :: a2 :: a3 :: a4 :: a5 :: some (vX x) :: T) st S) : K n pc (a0 :: a1 :: a2 :: a3 :: a4 :: a5 :: w :: T) (vX x :: st) S := r_xstoreG M d hj hs rfl kk
theorem r_lstore_6 (M : Mk g own cc nL fr lo N K) {a0 a1 a2 a3 a4 a5 w : Option AV} {w2 : Option AV} {T : List (Option AV)} {x : Int} (d : decode cc pc = .ok (.lstore 6, 2)) (hj : 6 + 1 < nL) (hs : stOK (a0 :: a1 :: a2 :: a3 :: a4 :: a5 :: w :: w2 :: T) 6 = true) (kk : K n (pc + 2) (a0 :: a1 :: a2 :: a3 :: a4 :: a5 :: some (vL x) :: none :: T) st S) : K n pc (a0 :: a1 :: a2 :: a3 :: a4 :: a5 :: w :: w2 :: T) (vL x :: st) S := r_lstoreG M d hj hs rfl kk
theorem r_iinc_6 (M : Mk g own cc nL fr lo N K) {a0 a1 a2 a3 a4 a5 : Option AV} {T : List (Option AV)} {x z : Int} (y : Int) (d : decode cc pc = .ok (.iinc 6 z, 3)) (hy : x + z = y) (hj : 6 < nL) (hs : stOK (a0 :: a1 :: a2 :: a3 :: a4 :: a5 :: some (vI x) :: T) 6 = true) (kk : K n (pc + 3) (a0 :: a1 :: a2 :: a3 :: a4 :: a5 :: some (vI y) :: T) st S) : K n pc (a0 :: a1 :: a2 :: a3 :: a4 :: a5 :: some (vI x) :: T) st S := r_iincG M d rfl hy hj hs rfl kk
theorem r_istore_7 (M : Mk g own cc nL fr lo N K) {a0 a1 a2 a3 a4 a5 a6 w : Option AV} {T : List (Option AV)} {x : Int} (d : decode cc pc = .ok (.istore 7, 2)) (hj : 7 < nL) (hs : stOK (a0 :: a1 :: a2 :: a3 :: a4 :: a5 :: a6 :: w :: T) 7 = true) (kk : K n (pc + 2) (a0 :: a1 :: a2 :: a3 :: a4 :: a5 :: a6 :: some (vI x) :: T) st S) : K n pc (a0 :: a1 :: a2 :: a3 :: a4 :: a5 :: a6 :: w :: T) (vI x :: st) S := r_istoreG M d hj hs rfl kk
theorem r_astore_7 (M : Mk g own cc nL fr lo N K) {a0 a1 a2 a3 a4 a5 a6 w : Option AV} {T : List (Option AV)} {t i : Nat} (d : decode cc pc = .ok (.astore 7, 2)) (hj : 7 < nL) (hs : stOK (a0 :: a1 :: a2 :: a3 :: a4 :: a5 :: a6 :: w :: T) 7 = true) (kk : K n (pc + 2) (a0 :: a1 :: a2 :: a3 :: a4 :: a5 :: a6 :: some (vR t i) :: T) st S) : K n pc (a0 :: a1 :: a2 :: a3 :: a4 :: a5 :: a6 :: w :: T) (vR t i :: st) S := r_astoreG M d hj hs rfl kk
theorem r_xstore_7 (M : Mk g own cc nL fr lo N K) {a0 a1 a2 a3 a4 a5 a6 w : Option AV} {T : List (Option AV)} {x : Nat} (d : decode cc pc = .ok (.astore 7, 2)) (hj : 7 < nL) (hs : stOK (a0 :: a1 :: a2 :: a3 :: a4 :: a5 :: a6 :: w :: T) 7 = true) (kk : K n (pc + 2) (a0 :: a1 :: a2 :: a3 :: a4 :: a5 :: a6 :: some (vX x) :: T) st S) : K n pc (a0 :: a1 :: a2 :: a3 :: a4 :: a5 :: a6 :: w :: T) (vX x :: st) S := r_xstoreG M d hj hs rfl kk
theorem r_lstore_7 (M : Mk g own cc nL fr lo N K) {a0 a1 a2 a3 a4 a5 a6 w : Option AV} {w2 : Option AV} {T : List (Option AV)} {x : Int} (d : decode cc pc = .ok (.lstore 7, 2)) (hj : 7 + 1 < nL) (hs : stOK (a0 :: a1 :: a2 :: a3 :: a4 :: a5 :: a6 :: w :: w2 :: T) 7 = true) (kk : K n (pc + 2) (a0 :: a1 :: a2 :: a3 :: a4 :: a5 :: a6 :: some (vL x) :: none :: T) st S) : K n pc (a0 :: a1 :: a2 :: a3 :: a4 :: a5 :: a6 :: w :: w2 :: T) (vL x :: st) S := r_lstoreG M d hj hs rfl kk
theorem r_iinc_7 (M : Mk g own cc nL fr lo N K) {a0 a1 a2 a3 a4 a5 a6 : Option AV} {T : List (Option AV)} {x z : Int} (y : Int) (d : decode cc pc = .ok (.iinc 7 z, 3)) (hy : x + z = y) (hj : 7 < nL) (hs : stOK (a0 :: a1 :: a2 :: a3 :: a4 :: a5 :: a6 :: some (vI x) :: T) 7 = true) (kk : K n (pc + 3) (a0 :: a1 :: a2 :: a3 :: a4 :: a5 :: a6 :: some (vI y) :: T) st S) : K n pc (a0 :: a1 :: a2 :: a3 :: a4 :: a5 :: a6 :: some (vI x) :: T) st S := r_iincG M d rfl hy hj hs rfl kk
theorem r_istore_8 (M : Mk g own cc nL fr lo N K) {a0 a1 a2 a3 a4 a5 a6 a7 w : Option AV} {T : List (Option AV)} {x : Int} (d : decode cc pc = .ok (.istore 8, 2)) (hj : 8 < nL) (hs : stOK (a0 :: a1 :: a2 :: a3 :: a4 :: a5 :: a6 :: a7 :: w :: T) 8 = true) (kk : K n (pc + 2) (a0 :: a1 :: a2 :: a3 :: a4 :: a5 :: a6 :: a7 :: some (vI x) :: T) st S) : K n pc (a0 :: a1 :: a2 :: a3 :: a4 :: a5 :: a6 :: a7 :: w :: T) (vI x :: st) S := r_istoreG M d hj hs rfl kk
theorem r_astore_8 (M : Mk g own cc nL fr lo N K) {a0 a1 a2 a3 a4 a5 a6 a7 w : Option AV} {T : List (Option AV)} {t i : Nat} (d : decode cc pc = .ok (.astore 8, 2)) (hj : 8 < nL) (hs : stOK (a0 :: a1 :: a2 :: a3 :: a4 :: a5 :: a6 :: a7 :: w :: T) 8 = true) (kk : K n (pc + 2) (a0 :: a1 :: a2 :: a3 :: a4 :: a5 :: a6 :: a7 :: some (vR t i) :: T) st S) : K n pc (a0 :: a1 :: a2 :: a3 :: a4 :: a5 :: a6 :: a7 :: w :: T) (vR t i :: st) S := r_astoreG M d hj hs rfl kk
theorem r_xstore_8 (M : Mk g own cc nL fr lo N K) {a0 a1 a2 a3 a4 a5 a6 a7 w : Option AV} {T : List (Option AV)} {x : Nat} (d : decode cc pc = .ok (.astore 8, 2)) (hj : 8 < nL) (hs : stOK (a0 :: a1 :: a2 :: a3 :: a4 :: a5 :: a6 :: a7 :: w :: T) 8 = true) (kk : K n (pc + 2) (a0 :: a1 :: a2 :: a3 :: a4 :: a5 :: a6 :: a7 :: some (vX x) :: T) st S) : K n pc (a0 :: a1 :: a2 :: a3 :: a4 :: a5 :: a6 :: a7 :: w :: T) (vX x :: st) S := r_xstoreG M d hj hs rfl kk
theorem r_lstore_8 (M : Mk g own cc nL fr lo N K) {a0 a1 a2 a3 a4 a5 a6 a7 w : Option AV} {w2 : Option AV} {T : List (Option AV)} {x : Int} (d : decode cc pc = .ok (.lstore 8, 2)) (hj : 8 + 1 < nL) (hs : stOK (a0 :: a1 :: a2 :: a3 :: a4 :: a5 :: a6 :: a7 :: w :: w2 :: T) 8 = true) (kk : K n (pc + 2) (a0 :: a1 :: a2 :: a3 :: a4 :: a5 :: a6 :: a7 :: some (vL x) :: none :: T) st S) : K n pc (a0 :: a1 :: a2 :: a3 :: a4 :: a5 :: a6 :: a7 :: w :: w2 :: T) (vL x :: st) S := r_lstoreG M d hj hs rfl kk
theorem r_iinc_8 (M : Mk g own cc nL fr lo N K) {a0 a1 a2 a3 a4 a5 a6 a7 : Option AV} {T : List (Option AV)} {x z : Int} (y : Int) (d : decode cc pc = .ok (.iinc 8 z, 3)) (hy : x + z = y) (hj : 8 < nL) (hs : stOK (a0 :: a1 :: a2 :: a3 :: a4 :: a5 :: a6 :: a7 :: some (vI x) :: T) 8 = true) (kk : K n (pc + 3) (a0 :: a1 :: a2 :: a3 :: a4 :: a5 :: a6 :: a7 :: some (vI y) :: T) st S) : K n pc (a0 :: a1 :: a2 :: a3 :: a4 :: a5 :: a6 :: a7 :: some (vI x) :: T) st S := r_iincG M d rfl hy hj hs rfl kk
theorem r_istore_9 (M : Mk g own cc nL fr lo N K) {a0 a1 a2 a3 a4 a5 a6 a7 a8 w : Option AV} {T : List (Option AV)} {x : Int} (d : decode cc pc = .ok (.istore 9, 2)) (hj : 9 < nL) (hs : stOK (a0 :: a1 :: a2 :: a3 :: a4 :: a5 :: a6 :: a7 :: a8 :: w :: T) 9 = true) (kk : K n (pc + 2) (a0 :: a1 :: a2 :: a3 :: a4 :: a5 :: a6 :: a7 :: a8 :: some (vI x) :: T) st S) : K n pc (a0 :: a1 :: a2 :: a3 :: a4 :: a5 :: a6 :: a7 :: a8 :: w :: T) (vI x :: st) S := r_istoreG M d hj hs rfl kk
theorem r_astore_9 (M : Mk g own cc nL fr lo N K) {a0 a1 a2 a3 a4 a5 a6 a7 a8 w : Option AV} {T : List (Option AV)} {t i : Nat} (d : decode cc pc = .ok (.astore 9, 2)) (hj : 9 < nL) (hs : stOK (a0 :: a1 :: a2 :: a3 :: a4 :: a5 :: a6 :: a7 :: a8 :: w :: T) 9 = true) (kk : K n (pc + 2) (a0 :: a1 :: a2 :: a3 :: a4 :: a5 :: a6 :: a7 :: a8 :: some (vR t i) :: T) st S) : K n pc (a0 :: a1 :: a2 :: a3 :: a4 :: a5 :: a6 :: a7 :: a8 :: w :: T) (vR t i :: st) S := r_astoreG M d hj hs rfl kk
theorem r_xstore_9 (M : Mk g own cc nL fr lo N K) {a0 a1 a2 a3 a4 a5 a6 a7 a8 w : Option AV} {T : List (Option AV)} {x : Nat} (d : decode cc pc = .ok (.astore 9, 2)) (hj : 9 < nL) (hs : stOK (a0 :: a1 :: a2 :: a3 :: a4 :: a5 :: a6 :: a7 :: a8 :: w :: T) 9 = true) (kk : K n (pc + 2) (a0 :: a1 :: a2 :: a3 :: a4 :: a5 :: a6 :: a7 :: a8 :: some (vX x) :: T) st S) : K n pc (a0 :: a1 :: a2 :: a3 :: a4 :: a5 :: a6 :: a7 :: a8 :: w :: T) (vX x :: st) S := r_xstoreG M d hj hs rfl kk
theorem r_lstore_9 (M : Mk g own cc nL fr lo N K) {a0 a1 a2 a3 a4 a5 a6 a7 a8 w : Option AV} {w2 : Option AV} {T : List (Option AV)} {x : Int} (d : decode cc pc = .ok (.lstore 9, 2)) (hj : 9 + 1 < nL) (hs : stOK (a0 :: a1 :: a2 :: a3 :: a4 :: a5 :: a6 :: a7 :: a8 :: w :: w2 :: T) 9 = true) (kk : K n (pc + 2) (a0 :: a1 :: a2 :: a3 :: a4 :: a5 :: a6 :: a7 :: a8 :: some (vL x) :: none :: T) st S) : K n pc (a0 :: a1 :: a2 :: a3 :: a4 :: a5 :: a6 :: a7 :: a8 :: w :: w2 :: T) (vL x :: st) S := r_lstoreG M d hj hs rfl kk
theorem r_iinc_9 (M : Mk g own cc nL fr lo N K) {a0 a1 a2 a3 a4 a5 a6 a7 a8 : Option AV} {T : List (Option AV)} {x z : Int} (y : Int) (d : decode cc pc = .ok (.iinc 9 z, 3)) (hy : x + z = y) (hj : 9 < nL) (hs : stOK (a0 :: a1 :: a2 :: a3 :: a4 :: a5 :: a6 :: a7 :: a8 :: some (vI x) :: T) 9 = true) (kk : K n (pc + 3) (a0 :: a1 :: a2 :: a3 :: a4 :: a5 :: a6 :: a7 :: a8 :: some (vI y) :: T) st S) : K n pc (a0 :: a1 :: a2 :: a3 :: a4 :: a5 :: a6 :: a7 :: a8 :: some (vI x) :: T) st S := r_iincG M d rfl hy hj hs rfl kk
theorem r_istore_10 (M : Mk g own cc nL fr lo N K) {a0 a1 a2 a3 a4 a5 a6 a7 a8 a9 w : Option AV} {T : List (Option AV)} {x : Int} (d : decode cc pc = .ok (.istore 10, 2)) (hj : 10 < nL) (hs : stOK (a0 :: a1 :: a2 :: a3 :: a4 :: a5 :: a6 :: a7 :: a8 :: a9 :: w :: T) 10 = true) (kk : K n (pc + 2) (a0 :: a1 :: a2 :: a3 :: a4 :: a5 :: a6 :: a7 :: a8 :: a9 :: some (vI x) :: T) st S) : K n pc (a0 :: a1 :: a2 :: a3 :: a4 :: a5 :: a6 :: a7 :: a8 :: a9 :: w :: T) (vI x :: st) S := r_istoreG M d hj hs rfl kk
theorem r_astore_10 (M : Mk g own cc nL fr lo N K) {a0 a1 a2 a3 a4 a5 a6 a7 a8 a9 w : Option AV} {T : List (Option AV)} {t i : Nat} (d : decode cc pc = .ok (.astore 10, 2)) (hj : 10 < nL) (hs : stOK (a0 :: a1 :: a2 :: a3 :: a4 :: a5 :: a6 :: a7 :: a8 :: a9 :: w :: T) 10 = true) (kk : K n (pc + 2) (a0 :: a1 :: a2 :: a3 :: a4 :: a5 :: a6 :: a7 :: a8 :: a9 :: some (vR t i) :: T) st S) : K n pc (a0 :: a1 :: a2 :: a3 :: a4 :: a5 :: a6 :: a7 :: a8 :: a9 :: w :: T) (vR t i :: st) S := r_astoreG M d hj hs rfl kk
theorem r_xstore_10 (M : Mk g own cc nL fr lo N K) {a0 a1 a2 a3 a4 a5 a6 a7 a8 a9 w : Option AV} {T : List (Option AV)} {x : Nat} (d : decode cc pc = .ok (.astore 10, 2)) (hj : 10 < nL) (hs : stOK (a0 :: a1 :: a2 :: a3 :: a4 :: a5 :: a6 :: a7 :: a8 :: a9 :: w :: T) 10 = true) (kk : K n (pc + 2) (a0 :: a1 :: a2 :: a3 :: a4 :: a5 :: a6 :: a7 :: a8 :: a9 :: some (vX x) :: T) st S) : K n pc (a0 :: a1 :: a2 :: a3 :: a4 :: a5 :: a6 :: a7 :: a8 :: a9 :: w :: T) (vX x :: st) S := r_xstoreG M d hj hs rfl kk
theorem r_lstore_10 (M : Mk g own cc nL fr lo N K) {a0 a1 a2 a3 a4 a5 a6 a7 a8 a9 w : Option AV} {w2 : Option AV} {T : List (Option AV)} {x : Int} (d : decode cc pc = .ok (.lstore 10, 2)) (hj : 10 + 1 < nL) (hs : stOK (a0 :: a1 :: a2 :: a3 :: a4 :: a5 :: a6 :: a7 :: a8 :: a9 :: w :: w2 :: T) 10 = true) (kk : K n (pc + 2) (a0 :: a1 :: a2 :: a3 :: a4 :: a5 :: a6 :: a7 :: a8 :: a9 :: some (vL x) :: none :: T) st S) : K n pc (a0 :: a1 :: a2 :: a3 :: a4 :: a5 :: a6 :: a7 :: a8 :: a9 :: w :: w2 :: T) (vL x :: st) S := r_lstoreG M d hj hs rfl kk
theorem r_iinc_10 (M : Mk g own cc nL fr lo N K) {a0 a1 a2 a3 a4 a5 a6 a7 a8 a9 : Option AV} {T : List (Option AV)} {x z : Int} (y : Int) (d : decode cc pc = .ok (.iinc 10 z, 3)) (hy : x + z = y) (hj : 10 < nL) (hs : stOK (a0 :: a1 :: a2 :: a3 :: a4 :: a5 :: a6 :: a7 :: a8 :: a9 :: some (vI x) :: T) 10 = true) (kk : K n (pc + 3) (a0 :: a1 :: a2 :: a3 :: a4 :: a5 :: a6 :: a7 :: a8 :: a9 :: some (vI y) :: T) st S) : K n pc (a0 :: a1 :: a2 :: a3 :: a4 :: a5 :: a6 :: a7 :: a8 :: a9 :: some (vI x) :: T) st S := r_iincG M d rfl hy hj hs rfl kk
theorem r_istore_11 (M : Mk g own cc nL fr lo N K) {a0 a1 a2 a3 a4 a5 a6 a7 a8 a9 a10 w : Option AV} {T : List (Option AV)} {x : Int} (d : decode cc pc = .ok (.istore 11, 2)) (hj : 11 < nL) (hs : stOK (a0 :: a1 :: a2 :: a3 :: a4 :: a5 :: a6 :: a7 :: a8 :: a9 :: a10 :: w :: T) 11 = true) (kk : K n (pc + 2) (a0 :: a1 :: a2 :: a3 :: a4 :: a5 :: a6 :: a7 :: a8 :: a9 :: a10 :: some (vI x) :: T) st S) : K n pc (a0 :: a1 :: a2 :: a3 :: a4 :: a5 :: a6 :: a7 :: a8 :: a9 :: a10 :: w :: T) (vI x :: st) S := r_istoreG M d hj hs rfl kk
theorem r_astore_11 (M : Mk g own cc nL fr lo N K) {a0 a1 a2 a3 a4 a5 a6 a7 a8 a9 a10 w : Option AV} {T : List (Option AV)} {t i : Nat} (d : decode cc pc = .ok (.astore 11, 2)) (hj : 11 < nL) (hs : stOK (a0 :: a1 :: a2 :: a3 :: a4 :: a5 :: a6 :: a7 :: a8 :: a9 :: a10 :: w :: T) 11 = true) (kk : K n (pc + 2) (a0 :: a1 :: a2 :: a3 :: a4 :: a5 :: a6 :: a7 :: a8 :: a9 :: a10 :: some (vR t i) :: T) st S) : K n pc (a0 :: a1 :: a2 :: a3 :: a4 :: a5 :: a6 :: a7 :: a8 :: a9 :: a10 :: w :: T) (vR t i :: st) S := r_astoreG M d hj hs rfl kk
theorem r_xstore_11 (M : Mk g own cc nL fr lo N K) {a0 a1 a2 a3 a4 a5 a6 a7 a8 a9 a10 w : Option AV} {T : List (Option AV)} {x : Nat} (d : decode cc pc = .ok (.astore 11, 2)) (hj : 11 < nL) (hs : stOK (a0 :: a1 :: a2 :: a3 :: a4 :: a5 :: a6 :: a7 :: a8 :: a9 :: a10 :: w :: T) 11 = true) (kk : K n (pc + 2) (a0 :: a1 :: a2 :: a3 :: a4 :: a5 :: a6 :: a7 :: a8 :: a9 :: a10 :: some (vX x) :: T) st S) : K n pc (a0 :: a1 :: a2 :: a3 :: a4 :: a5 :: a6 :: a7 :: a8 :: a9 :: a10 :: w :: T) (vX x :: st) S := r_xstoreG M d hj hs rfl kk
theorem r_lstore_11 (M : Mk g own cc nL fr lo N K) {a0 a1 a2 a3 a4 a5 a6 a7 a8 a9 a10 w : Option AV} {w2 : Option AV} {T : List (Option AV)} {x : Int} (d : decode cc pc = .ok (.lstore 11, 2)) (hj : 11 + 1 < nL) (hs : stOK (a0 :: a1 :: a2 :: a3 :: a4 :: a5 :: a6 :: a7 :: a8 :: a9 :: a10 :: w :: w2 :: T) 11 = true) (kk : K n (pc + 2) (a0 :: a1 :: a2 :: a3 :: a4 :: a5 :: a6 :: a7 :: a8 :: a9 :: a10 :: some (vL x) :: none :: T) st S) : K n pc (a0 :: a1 :: a2 :: a3 :: a4 :: a5 :: a6 :: a7 :: a8 :: a9 :: a10 :: w :: w2 :: T) (vL x :: st) S := r_lstoreG M d hj hs rfl kk
theorem r_iinc_11 (M : Mk g own cc nL fr lo N K) {a0 a1 a2 a3 a4 a5 a6 a7 a8 a9 a10 : Option AV} {T : List (Option AV)} {x z : Int} (y : Int) (d : decode cc pc = .ok (.iinc 11 z, 3)) (hy : x + z = y) (hj : 11 < nL) (hs : stOK (a0 :: a1 :: a2 :: a3 :: a4 :: a5 :: a6 :: a7 :: a8 :: a9 :: a10 :: some (vI x) :: T) 11 = true) (kk : K n (pc + 3) (a0 :: a1 :: a2 :: a3 :: a4 :: a5 :: a6 :: a7 :: a8 :: a9 :: a10 :: some (vI y) :: T) st S) : K n pc (a0 :: a1 :: a2 :: a3 :: a4 :: a5 :: a6 :: a7 :: a8 :: a9 :: a10 :: some (vI x) :: T) st S := r_iincG M d rfl hy hj hs rfl kk
theorem r_istore_12 (M : Mk g own cc nL fr lo N K) {a0 a1 a2 a3 a4 a5 a6 a7 a8 a9 a10 a11 w : Option AV} {T : List (Option AV)} {x : Int} (d : decode cc pc = .ok (.istore 12, 2)) (hj : 12 < nL) (hs : stOK (a0 :: a1 :: a2 :: a3 :: a4 :: a5 :: a6 :: a7 :: a8 :: a9 :: a10 :: a11 :: w :: T) 12 = true) (kk : K n (pc + 2) (a0 :: a1 :: a2 :: a3 :: a4 :: a5 :: a6 :: a7 :: a8 :: a9 :: a10 :: a11 :: some (vI x) :: T) st S) : K n pc (a0 :: a1 :: a2 :: a3 :: a4 :: a5 :: a6 :: a7 :: a8 :: a9 :: a10 :: a11 :: w :: T) (vI x :: st) S := r_istoreG M d hj hs rfl kk
theorem r_astore_12 (M : Mk g own cc nL fr lo N K) {a0 a1 a2 a3 a4 a5 a6 a7 a8 a9 a10 a11 w : Option AV} {T : List (Option AV)} {t i : Nat} (d : decode cc pc = .ok (.astore 12, 2)) (hj : 12 < nL) (hs : stOK (a0 :: a1 :: a2 :: a3 :: a4 :: a5 :: a6 :: a7 :: a8 :: a9 :: a10 :: a11 :: w :: T) 12 = true) (kk : K n (pc + 2) (a0 :: a1 :: a2 :: a3 :: a4 :: a5 :: a6 :: a7 :: a8 :: a9 :: a10 :: a11 :: some (vR t i) :: T) st S) : K n pc (a0 :: a1 :: a2 :: a3 :: a4 :: a5 :: a6 :: a7 :: a8 :: a9 :: a10 :: a11 :: w :: T) (vR t i :: st) S := r_astoreG M d hj hs rfl kk
theorem r_xstore_12 (M : Mk g own cc nL fr lo N K) {a0 a1 a2 a3 a4 a5 a6 a7 a8 a9 a10 a11 w : Option AV} {T : List (Option AV)} {x : Nat} (d : decode cc pc = .ok (.astore 12, 2)) (hj : 12 < nL) (hs : stOK (a0 :: a1 :: a2 :: a3 :: a4 :: a5 :: a6 :: a7 :: a8 :: a9 :: a10 :: a11 :: w :: T) 12 = true) (kk : K n (pc + 2) (a0 :: a1 :: a2 :: a3 :: a4 :: a5 :: a6 :: a7 :: a8 :: a9 :: a10 :: a11 :: some (vX x) :: T) st S) : K n pc (a0 :: a1 :: a2 :: a3 :: a4 :: a5 :: a6 :: a7 :: a8 :: a9 :: a10 :: a11 :: w :: T) (vX x :: st) S := r_xstoreG M d hj hs rfl kk
theorem r_lstore_12 (M : Mk g own cc nL fr lo N K) {a0 a1 a2 a3 a4 a5 a6 a7 a8 a9 a10 a11 w : Option AV} {w2 : Option AV} {T : List (Option AV)} {x : Int} (d : decode cc pc = .ok (.lstore 12, 2)) (hj : 12 + 1 < nL) (hs : stOK (a0 :: a1 :: a2 :: a3 :: a4 :: a5 :: a6 :: a7 :: a8 :: a9 :: a10 :: a11 :: w :: w2 :: T) 12 = true) (kk : K n (pc + 2) (a0 :: a1 :: a2 :: a3 :: a4 :: a5 :: a6 :: a7 :: a8 :: a9 :: a10 :: a11 :: some (vL x) :: none :: T) st S) : K n pc (a0 :: a1 :: a2 :: a3 :: a4 :: a5 :: a6 :: a7 :: a8 :: a9 :: a10 :: a11 :: w :: w2 :: T) (vL x :: st) S := r_lstoreG M d hj hs rfl kk
theorem r_iinc_12 (M : Mk g own cc nL fr lo N K) {a0 a1 a2 a3 a4 a5 a6 a7 a8 a9 a10 a11 : Option AV} {T : List (Option AV)} {x z : Int} (y : Int) (d : decode cc pc = .ok (.iinc 12 z, 3)) (hy : x + z = y) (hj : 12 < nL) (hs : stOK (a0 :: a1 :: a2 :: a3 :: a4 :: a5 :: a6 :: a7 :: a8 :: a9 :: a10 :: a11 :: some (vI x) :: T) 12 = true) (kk : K n (pc + 3) (a0 :: a1 :: a2 :: a3 :: a4 :: a5 :: a6 :: a7 :: a8 :: a9 :: a10 :: a11 :: some (vI y) :: T) st S) : K n pc (a0 :: a1 :: a2 :: a3 :: a4 :: a5 :: a6 :: a7 :: a8 :: a9 :: a10 :: a11 :: some (vI x) :: T) st S := r_iincG M d rfl hy hj hs rfl kk
end KL
end
section
/-! ===== BEGIN a private method of a nest mate that may throw (follows va_callVN, va_callSN, va_runVN, va_runSN) ===== -/
section
variable {p : Program} {l : Launch} {e : Env} {R : Room} {s : State} {m : MethodId} {args : Array Value} {below : List Frame} {meth : Method} {c : Code} {H : Heap} {locs : List Loc} {cells slots : Nat}
variable {T : State}
theorem vx_callVN (X : Stand p l e R s m args below meth c T locs cells slots) (hexec : p.tables.exec = Jvm.exec) {own C : String} {index : Nat} {host : String} {y : MethodName} {bytes : ByteArray} {maxL : Nat} {ret : Option FieldType}
    (hown : s.vm.findClass own = some m.cls) (hlink : (Cond.methodLinkNest own index y host).before args s = true) (hinst : (Cond.instanceMethod y).before args s = true) (hsel : (Cond.selects C y y).before args s = true)
    (hcode : (Cond.code y bytes maxL ret).before args s = true) (hy : y.cls ≠ "java/lang/invoke/MethodHandle" ∧ y.cls ≠ "java/lang/invoke/VarHandle")
    {W : Nat} {Pre : Pt → Array Value → Prop} {Post : Pt → Array Value → Option Value → Pt → Prop} {PostX : Pt → Array Value → Addr → Pt → Prop} (hK : vx_Back l R p e below s args y 3 W Pre Post PostX)
    {b : Addr} {cellB : Cell} (hcell : T.heap[b]? = some cellB) (hobj : cellB.vm.isStatics = false) (hcls : s.vm.findClass C = some cellB.cls)
    {g : JFrame} (hg : g.method = m) (hsize : g.locals.size = c.maxLocals) {argsL rest : List Value} (hlen : ∀ sig, parseMethodDescriptor y.desc = some sig → argsL.length = sig.parameters.length)
    (hstack : g.stack = argsL.reverse ++ .ref b :: rest) (hW : 2 * g.monitorRoom + (rest.map fun v => v.category).sum ≤ W) (hdg : decode c.code g.pc = .ok (.invokevirtual index, 3))
    (hpre : ∀ vm₁, s.WarmedH vm₁ → Pre ⟨T.setVm vm₁, locs, cells, slots⟩ (Value.ref b :: argsL).toArray) :
    (∃ (v : Option Value) (vm₁ : Vm) (B : Pt), s.WarmedH vm₁ ∧ Stand p l e R s m args below meth c B.U B.locs B.cells B.slots ∧ Post ⟨T.setVm vm₁, locs, cells, slots⟩ (Value.ref b :: argsL).toArray v B ∧
      ∀ target, Steps p.tables e below (B.U.setTop { g with pc := g.pc + 3, stack := v.toList ++ rest }) target → Steps p.tables e below (T.setTop g) target) ∨
    (∃ (q : Addr) (vm₁ : Vm) (B : Pt), s.WarmedH vm₁ ∧ Stand p l e R s m args below meth c B.U B.locs B.cells B.slots ∧ PostX ⟨T.setVm vm₁, locs, cells, slots⟩ (Value.ref b :: argsL).toArray q B ∧
      Steps p.tables e below (T.setTop g) ((B.U.setTop { g with stack := rest }).pushFrame (.throwing q))) := by
  obtain ⟨mk, methM, hnamed, hmethM, hstM, habM⟩ := Cond.instanceMethod_spec hinst
  obtain ⟨methM', cM, hmethM', -, -, -, -, -, -, hsigM⟩ := Cond.code_spec hnamed hcode
  cases hmethM.symm.trans hmethM'
  obtain ⟨c2, r2, m2, q1, q2, q3, q4, kP, hkP, hkPi⟩ := Cond.selects_spec hsel
  cases hcls.symm.trans q1
  cases (State.methodFound?_of_named hnamed hy).symm.trans q2
  cases hnamed.symm.trans q3
  have hselP : selectMethod e.platform s.vm cellB.cls mk = .method mk := by rw [Launch.admits_selectMethod X.admits]; exact q4
  obtain ⟨vm₁, X₁, hstep₁⟩ := X.invokevirtualNest hexec hown hlink hnamed hmethM hstM hkP hkPi hy (a := b) (cell := cellB) hcell
    (fun z h => by rw [h] at hobj; cases hobj) hselP hmethM habM hkP hkPi (g := g) hg (argsL := argsL) (rest := rest) (hlen _ hsigM) hstack hdg
  rcases hK m meth c ⟨T.setVm vm₁, locs, cells, slots⟩ { g with stack := rest } (.invokevirtual index) mk (Value.ref b :: argsL).toArray X₁ hg hsize hdg hW (X₁.named hnamed) (hpre vm₁ X₁.warmed) with ⟨v, B, X', hpost, hsteps⟩ | ⟨q, B, X', hpost, hsteps⟩
  · exact Or.inl ⟨v, vm₁, B, X₁.warmed, X', hpost, fun target h => hstep₁ _ fun acts => by rw [doInvoke_state]; exact hsteps.trans h⟩
  · exact Or.inr ⟨q, vm₁, B, X₁.warmed, X', hpost, hstep₁ _ fun acts => by rw [doInvoke_state]; exact hsteps⟩
theorem vx_callSN (X : Stand p l e R s m args below meth c T locs cells slots) (hexec : p.tables.exec = Jvm.exec) {own : String} {index : Nat} {host : String} {y : MethodName} {bytes : ByteArray} {maxL : Nat} {ret : Option FieldType}
    (hown : s.vm.findClass own = some m.cls) (hlink : (Cond.methodLinkNest own index y host).before args s = true) (hstat : (Cond.static y).before args s = true) (hinit : (Cond.initialized y.cls).before args s = true)
    (hcode : (Cond.code y bytes maxL ret).before args s = true) (hy : y.cls ≠ "java/lang/invoke/MethodHandle" ∧ y.cls ≠ "java/lang/invoke/VarHandle")
    {W : Nat} {Pre : Pt → Array Value → Prop} {Post : Pt → Array Value → Option Value → Pt → Prop} {PostX : Pt → Array Value → Addr → Pt → Prop} (hK : vx_Back l R p e below s args y 3 W Pre Post PostX)
    {g : JFrame} (hg : g.method = m) (hsize : g.locals.size = c.maxLocals) {argsL rest : List Value} (hlen : ∀ sig, parseMethodDescriptor y.desc = some sig → argsL.length = sig.parameters.length)
    (hstack : g.stack = argsL.reverse ++ rest) (hW : 2 * g.monitorRoom + (rest.map fun v => v.category).sum ≤ W) (hdg : decode c.code g.pc = .ok (.invokestatic index, 3))
    (hpre : ∀ vm₁, s.WarmedH vm₁ → Pre ⟨T.setVm vm₁, locs, cells, slots⟩ argsL.toArray) :
    (∃ (v : Option Value) (vm₁ : Vm) (B : Pt), s.WarmedH vm₁ ∧ Stand p l e R s m args below meth c B.U B.locs B.cells B.slots ∧ Post ⟨T.setVm vm₁, locs, cells, slots⟩ argsL.toArray v B ∧
      ∀ target, Steps p.tables e below (B.U.setTop { g with pc := g.pc + 3, stack := v.toList ++ rest }) target → Steps p.tables e below (T.setTop g) target) ∨
    (∃ (q : Addr) (vm₁ : Vm) (B : Pt), s.WarmedH vm₁ ∧ Stand p l e R s m args below meth c B.U B.locs B.cells B.slots ∧ PostX ⟨T.setVm vm₁, locs, cells, slots⟩ argsL.toArray q B ∧
      Steps p.tables e below (T.setTop g) ((B.U.setTop { g with stack := rest }).pushFrame (.throwing q))) := by
  obtain ⟨mk, hnamed⟩ := Cond.code_named hcode
  obtain ⟨methM, cM, hmethM, -, -, -, -, -, -, hsigM⟩ := Cond.code_spec hnamed hcode
  have hstatic : methM.isStatic = true := Cond.static_spec hnamed hmethM hstat
  obtain ⟨kP, hkP, -⟩ := className_of_methodNamed hnamed
  have hinitP : kP.init = .initialized := Cond.initialized_spec (findClass_of_methodNamed hnamed) hkP hinit
  obtain ⟨vm₁, X₁, hstep₁⟩ := X.invokestaticNest hexec hown hlink hnamed hmethM hstatic hkP hinitP hy (g := g) hg (argsL := argsL) (rest := rest) (hlen _ hsigM) hstack hdg
  rcases hK m meth c ⟨T.setVm vm₁, locs, cells, slots⟩ { g with stack := rest } (.invokestatic index) mk argsL.toArray X₁ hg hsize hdg hW (X₁.named hnamed) (hpre vm₁ X₁.warmed) with ⟨v, B, X', hpost, hsteps⟩ | ⟨q, B, X', hpost, hsteps⟩
  · exact Or.inl ⟨v, vm₁, B, X₁.warmed, X', hpost, fun target h => hstep₁ _ fun acts => by rw [doInvoke_state]; exact hsteps.trans h⟩
  · exact Or.inr ⟨q, vm₁, B, X₁.warmed, X', hpost, hstep₁ _ fun acts => by rw [doInvoke_state]; exact hsteps⟩
theorem vx_runVN {y : MethodName} {bytes cc : ByteArray} {maxL nL mc ms n index : Nat} {ret : Option FieldType} {ws : List Cond} {rm : Room} {Pc : Array Value → State → Prop} {Qc : Array Value → State → Outcome → State → Prop} {XC : String → State → State → Prop} {free : Addr → Prop} {Ts : List Cond} {own C host : String} {b : Addr} {As rest : List Value} {g : JFrame}
    (S : CallFix p m c cc nL s args Ts own) (hM : vx_Met l y ws rm Pc Qc XC mc ms free) (cw : va_CN R s args own index y host bytes maxL ret ws rm mc ms n ∧ (Cond.instanceMethod y).before args s = true ∧ (Cond.selects C y y).before args s = true) (hp : PreV s H C b Pc As)
    (hg : g.method = m) (hn : As.length = n) (hsize : g.locals.size = nL) (hstack : g.stack = As.reverse ++ .ref b :: rest) (hW : 2 * g.monitorRoom + (rest.map fun v => v.category).sum ≤ 8) (hdg : decode cc g.pc = .ok (.invokevirtual index, 3)) (hf : cells + mc ≤ R.cells ∧ slots + ms ≤ R.slots) :
    vx_Run p l e R s m args below meth c H locs cells slots mc ms g rest (Qc (Value.ref b :: As).toArray) XC free := by
  obtain ⟨⟨⟨hrc, hrs, hfr, hlo, hws, hcw⟩, hcode, hini, hy, hlen, hl⟩, hx1, hx2⟩ := cw
  have hK : vx_Back l R p e below s args y 3 8 (PreOf R mc ms Pc) (PostOf Qc mc ms free) (vx_Post XC mc ms free) := vx_back (bytes := bytes) (maxL := maxL) (ret := ret) hM hp.1 hrc hrs hfr hlo hws hcw (fun a' U hW => word_at hW (Or.inl (by first | rfl | simp [Cond.onTables, Cond.keeps, Cond.steady])) hini)
  obtain ⟨hx, hb, hml, ho, -⟩ := S
  obtain ⟨-, ⟨cellB, hcB, hoB, hclB⟩, hPc⟩ := hp
  intro T hT X
  rcases vx_callVN X hx (C := C) (bytes := bytes) (maxL := maxL) (ret := ret) ho hl hx1 hx2 hcode hy hK (by rw [hT]; exact hcB) hoB hclB hg (hsize.trans hml.symm) (argsL := As) (rest := rest) (fun sig h => hn.trans (hlen sig h)) hstack hW (by rw [hb]; exact hdg)
    (fun vm₁ hW₁ => ⟨hf.1, hf.2, hPc (T.setVm vm₁) hT hW₁⟩) with ⟨v, vm₁, ⟨U', l2, c2, s2⟩, hW₁, X', ⟨g', mk, t, L, e1, e2, hq, h1, hL, h2, h3⟩, st⟩ | ⟨q, vm₁, ⟨U', l2, c2, s2⟩, hW₁, X', ⟨g', mk, t, L, E, ce, e1, e2, hq, hce, hcv, hcl, h1, hL, h2, h3⟩, st⟩
  · dsimp only [Pt.U, Pt.locs, Pt.cells, Pt.slots] at X' e1 e2 h1 h2 h3 st
    subst h1; subst h2; subst h3
    exact Or.inl ⟨v, (T.setVm vm₁).calling g' mk (Value.ref b :: As).toArray, t, U', L, hT, X', hL, e1, e2, hq, st⟩
  · dsimp only [Pt.U, Pt.locs, Pt.cells, Pt.slots] at X' e1 e2 h1 h2 h3 st hcl
    subst h1; subst h2; subst h3
    exact Or.inr ⟨q, (T.setVm vm₁).calling g' mk (Value.ref b :: As).toArray, t, U', L, E, ce, hT, X', hL, e1, e2, hq, hce, hcv, vx_cls hW₁ hcl, st⟩
theorem vx_runSN {y : MethodName} {bytes cc : ByteArray} {maxL nL mc ms n index : Nat} {ret : Option FieldType} {ws : List Cond} {rm : Room} {Pc : Array Value → State → Prop} {Qc : Array Value → State → Outcome → State → Prop} {XC : String → State → State → Prop} {free : Addr → Prop} {Ts : List Cond} {own host : String} {As rest : List Value} {g : JFrame}
    (S : CallFix p m c cc nL s args Ts own) (hM : vx_Met l y ws rm Pc Qc XC mc ms free) (cw : va_CN R s args own index y host bytes maxL ret ws rm mc ms n ∧ (Cond.static y).before args s = true ∧ True) (hp : PreS s H Pc As)
    (hg : g.method = m) (hn : As.length = n) (hsize : g.locals.size = nL) (hstack : g.stack = As.reverse ++ rest) (hW : 2 * g.monitorRoom + (rest.map fun v => v.category).sum ≤ 8) (hdg : decode cc g.pc = .ok (.invokestatic index, 3)) (hf : cells + mc ≤ R.cells ∧ slots + ms ≤ R.slots) :
    vx_Run p l e R s m args below meth c H locs cells slots mc ms g rest (Qc As.toArray) XC free := by
  obtain ⟨⟨⟨hrc, hrs, hfr, hlo, hws, hcw⟩, hcode, hini, hy, hlen, hl⟩, hx1, hx2⟩ := cw
  have hK : vx_Back l R p e below s args y 3 8 (PreOf R mc ms Pc) (PostOf Qc mc ms free) (vx_Post XC mc ms free) := vx_back (bytes := bytes) (maxL := maxL) (ret := ret) hM hp.1 hrc hrs hfr hlo hws hcw (fun a' U hW => word_at hW (Or.inl (by first | rfl | simp [Cond.onTables, Cond.keeps, Cond.steady])) hini)
  obtain ⟨hx, hb, hml, ho, -⟩ := S
  have hPc := hp.2
  intro T hT X
  rcases vx_callSN X hx (bytes := bytes) (maxL := maxL) (ret := ret) ho hl hx1 hini hcode hy hK hg (hsize.trans hml.symm) (argsL := As) (rest := rest) (fun sig h => hn.trans (hlen sig h)) hstack hW (by rw [hb]; exact hdg)
    (fun vm₁ hW₁ => ⟨hf.1, hf.2, hPc (T.setVm vm₁) hT hW₁⟩) with ⟨v, vm₁, ⟨U', l2, c2, s2⟩, hW₁, X', ⟨g', mk, t, L, e1, e2, hq, h1, hL, h2, h3⟩, st⟩ | ⟨q, vm₁, ⟨U', l2, c2, s2⟩, hW₁, X', ⟨g', mk, t, L, E, ce, e1, e2, hq, hce, hcv, hcl, h1, hL, h2, h3⟩, st⟩
  · dsimp only [Pt.U, Pt.locs, Pt.cells, Pt.slots] at X' e1 e2 h1 h2 h3 st
    subst h1; subst h2; subst h3
    exact Or.inl ⟨v, (T.setVm vm₁).calling g' mk As.toArray, t, U', L, hT, X', hL, e1, e2, hq, st⟩
  · dsimp only [Pt.U, Pt.locs, Pt.cells, Pt.slots] at X' e1 e2 h1 h2 h3 st hcl
    subst h1; subst h2; subst h3
    exact Or.inr ⟨q, (T.setVm vm₁).calling g' mk As.toArray, t, U', L, E, ce, hT, X', hL, e1, e2, hq, hce, hcv, vx_cls hW₁ hcl, st⟩
end
/-! ===== END ===== -/
end
section
/-! ===== rows over the world: fields, arrays, the two of Math ===== -/
section KH
variable {g : Gl} {own : String} {cc : ByteArray} {nL fr lo N : Nat} {K : KT} {n pc : Nat} {L : List (Option AV)} {st : List AV} {S : St}
def Lk (own : String) (ix : Nat) (a b d : String) : Prop := (Cond.fieldLink own ix a b d ∈ WT) ∨ ∃ host, Cond.fieldLinkNest own ix a b d host ∈ NW
def Fk (own : String) (ix t k : Nat) : Prop := kd t < 5 ∧ t < 30 ∧ k < nf t ∧ ∃ (C : String) (T : u_T), vwCl[kd t]? = some (C, T, nf t) ∧ (∀ w ∈ u_ws C T (nf t), w ∈ WT) ∧ Lk own ix (T k).1 (T k).2.1 (T k).2.2.1
def Pk (own : String) (ix t k : Nat) (ty : FieldType) : Prop := kd t < 5 ∧ t < 30 ∧ k < nf t ∧ rfp t k = none ∧ ∃ (C : String) (T : u_T) (ty0 : Nat → FieldType), vwCl[kd t]? = some (C, T, nf t) ∧ (∀ w ∈ u_ws C T (nf t), w ∈ WT) ∧ Lk own ix (T k).1 (T k).2.1 (T k).2.2.1 ∧
  (∀ k, k < nf t → parseFieldDescriptor (T k).2.2.1 = some (ty0 k)) ∧ (∀ a, a < nf t → ∀ b, b < nf t → a ≠ b → (T a).2.1 ≠ (T b).2.1) ∧ (T k).2.2.2 = false ∧ parseFieldDescriptor (T k).2.2.1 = some ty
theorem r_get (M : Mk g own cc nL fr lo N K) {ix t k i : Nat} (d : decode cc pc = .ok (.getfield ix, 3)) (hF : Fk own ix t k) (hi : i < ctn t) {v : AV} (hv : slt g t i k (S t i k) = cv g v) (kk : K n (pc + 3) L (v :: st) S) : K n pc L (vR t i :: st) S :=
  M.go (fun p e R s m args below meth c A c0 s0 Q C H locs ls hW hS hL hn kk => by
    obtain ⟨h1, h2, h3, C9, T, hc, hw, hl⟩ := hF
    obtain ⟨q, hq, he⟩ := wl_get g S h2 hi
    rw [en_obj g i _ h1] at he
    have hv2 := (slots_get (n := nf t) (fun k => slt g t i k (S t i k)) h3).trans (congrArg some hv)
    rcases hl with hl | ⟨host, hl⟩
    · exact va_get (D := g.2.1) C.1 C.2.1 C.2.2.2.2.1 hw C.2.2.2.1 C.2.2.2.2.2.1.2.1 hW q he hc k h3 (C.2.2.2.2.1 _ hl) (fun _ h => h) hv2 d (kk ls hL)
    · exact va_getN (D := g.2.1) C.1 C.2.1 C.2.2.2.2.1 hw C.2.2.2.1 C.2.2.2.2.2.1.2.1 hW q he hc k h3 (va_Nw.use rfl (C.2.2.2.2.2.1.1 _ hl)) (fun _ h => h) hv2 d (kk ls hL)) kk
theorem r_getI (M : Mk g own cc nL fr lo N K) {ix t k i : Nat} (d : decode cc pc = .ok (.getfield ix, 3)) (hF : Fk own ix t k) (hi : i < ctn t) (hr : rfp t k = none) (kk : K n (pc + 3) L (vI (S t i k) :: st) S) : K n pc L (vR t i :: st) S :=
  r_get M d hF hi (by unfold slt; rw [hr]; rfl) kk
theorem r_getR (M : Mk g own cc nL fr lo N K) {ix t k i u : Nat} (d : decode cc pc = .ok (.getfield ix, 3)) (hF : Fk own ix t k) (hi : i < ctn t) (hr : rfp t k = some u) (kk : K n (pc + 3) L (vR u i :: st) S) : K n pc L (vR t i :: st) S :=
  r_get M d hF hi (by unfold slt; rw [hr]; rfl) kk
/-- one cell of the world is written -/
theorem wd_set {H1 : Heap} {t i q : Nat} (hq : prs[q]? = some (t, i)) {f : Nat → Int} {x : va_E} (hx : x = en g t i f) (h : va_P g.2.1 vwCl ((wl g S).set q (g.2.2.1 t i, x)) H1) : Wd g (upT S t i f) H1 := by
  subst hx
  rw [wl_set g S hq] at h
  exact h
theorem r_put (M : Mk g own cc nL fr lo N K) {ix t k i : Nat} {ty : FieldType} {x : Int} (d : decode cc pc = .ok (.putfield ix, 3)) (hF : Pk own ix t k ty) (hi : i < ctn t) (hn1 : narrow ty (.int (Int32.ofInt x)) = .int (Int32.ofInt x)) (hfit : fits ty (.int (Int32.ofInt x)) = true) (kk : K n (pc + 3) L st (up3 S t i k x)) : K n pc L (vI x :: vR t i :: st) S := by
  obtain ⟨p, e, R, s, m, args, below, meth, c, A, c0, s0, Q, C, hK⟩ := M
  rw [hK] at kk ⊢
  intro hn H locs ls hW hS hL
  obtain ⟨h1, h2, h3, hr, C9, T, ty0, hc, hw, hl, hty, hnm, hfin, hd⟩ := hF
  obtain ⟨q, hq, he⟩ := wl_get g S h2 hi
  rw [en_obj g i _ h1] at he
  have hD := Apt.D C.2.2.2.2.2.1.2.2.2.2.1 C.2.2.2.2.2.2.1 S
  have hset : ((List.range (nf t)).map fun k => slt g t i k (S t i k)).set k (.int (Int32.ofInt x)) = (List.range (nf t)).map fun c => slt g t i c (if c = k then x else S t i c) := by
    have e1 := slots_set (n := nf t) (k := k) (fun c => slt g t i c (S t i c)) (fun c => slt g t i c (if c = k then x else S t i c)) (fun j hj => by simp only [if_neg hj])
    rw [← e1]
    congr 1
    unfold slt
    rw [hr]
    simp
  have go : ∀ (H1 : Heap) (locs1 : List Loc), va_P g.2.1 vwCl ((wl g S).set q (g.2.2.1 t i, .inr (kd t, ((List.range (nf t)).map fun k => slt g t i k (S t i k)).set k (.int (Int32.ofInt x))))) H1 → va_D A ((wl g S).set q (g.2.2.1 t i, .inr (kd t, ((List.range (nf t)).map fun k => slt g t i k (S t i k)).set k (.int (Int32.ofInt x))))) → va_S A s.heap H1 locs1 → W p g.1 e R s m args below meth c H1 locs1 (c0 + n) (s0 + 6 * n) Q (F0 m (pc + 3) ls (st.map (cv g))) := fun H1 locs1 hP1 _ hS1 => by
    have hW1 := wd_set (f := fun c => if c = k then x else S t i c) hq (by rw [en_obj g i _ h1, hset]) hP1
    rw [← up3_T] at hW1
    exact kk hn H1 locs1 ls hW1 hS1 hL
  rcases hl with hl | ⟨host, hl⟩
  · exact va_put (D := g.2.1) (v := .int (Int32.ofInt x)) C.1 C.2.1 C.2.2.2.2.1 hw ty0 hty hnm C.2.2.2.1 C.2.2.2.2.2.1.2.1 hW hD hS q he hc k h3 (C.2.2.2.2.1 _ hl) (fun _ h => h) hfin hd hn1 hfit (by rw [List.length_map, List.length_range]; exact h3) d go
  · exact va_putN (D := g.2.1) (v := .int (Int32.ofInt x)) C.1 C.2.1 C.2.2.2.2.1 hw ty0 hty hnm C.2.2.2.1 C.2.2.2.2.2.1.2.1 hW hD hS q he hc k h3 (va_Nw.use rfl (C.2.2.2.2.2.1.1 _ hl)) (fun _ h => h) hfin hd hn1 hfit (by rw [List.length_map, List.length_range]; exact h3) d go
theorem r_putI (M : Mk g own cc nL fr lo N K) {ix t k i : Nat} {x : Int} (d : decode cc pc = .ok (.putfield ix, 3)) (hF : Pk own ix t k .int) (hi : i < ctn t) (kk : K n (pc + 3) L st (up3 S t i k x)) : K n pc L (vI x :: vR t i :: st) S :=
  r_put M d hF hi rfl rfl kk
theorem r_putZ (M : Mk g own cc nL fr lo N K) {ix t k i : Nat} {x : Int} (d : decode cc pc = .ok (.putfield ix, 3)) (hF : Pk own ix t k .boolean) (hi : i < ctn t) (hx : x = 0 ∨ x = 1) (kk : K n (pc + 3) L st (up3 S t i k x)) : K n pc L (vI x :: vR t i :: st) S :=
  r_put M d hF hi (by rcases hx with rfl | rfl <;> rfl) (by rcases hx with rfl | rfl <;> rfl) kk
theorem r_iald (M : Mk g own cc nL fr lo N K) {t i : Nat} {z : Int} (j : Nat) (d : decode cc pc = .ok (.iaload, 1)) (ht : kd t = 5 ∧ t < 30) (hi : i < ctn t) (hz : z = (j : Int)) (hj : j < nf t) (hnf : nf t ≤ 2147483647) (kk : K n (pc + 1) L (vI (S t i j) :: st) S) : K n pc L (vI z :: vR t i :: st) S :=
  M.go (fun p e R s m args below meth c A c0 s0 Q C H locs ls hW hS hL hn kk => by
    obtain ⟨q, hq, he⟩ := wl_get g S ht.2 hi
    rw [en_int g i _ ht.1] at he
    obtain ⟨e1, e2⟩ := ofI_clamp (j := z) (n := nf t) (by omega) hnf
    have e3 : z.toNat = j := by omega
    refine va_iald (D := g.2.1) C.1 C.2.1 C.2.2.2.2.2.1.2.1 hW q 0 he rfl e2 d ?_
    rw [e1, e3]
    exact kk ls hL) kk
theorem upT_up3 (S : St) (t i j : Nat) (x : Int) : upT S t i (fun c => if c = j then x else S t i c) = up3 S t i j x := (up3_T S t i j x).symm
theorem r_iast (M : Mk g own cc nL fr lo N K) {t i : Nat} {z x : Int} (j : Nat) (d : decode cc pc = .ok (.iastore, 1)) (ht : kd t = 5 ∧ t < 30) (hi : i < ctn t) (hz : z = (j : Int)) (hj : j < nf t) (hnf : nf t ≤ 2147483647) (kk : K n (pc + 1) L st (up3 S t i j x)) : K n pc L (vI x :: vI z :: vR t i :: st) S := by
  obtain ⟨p, e, R, s, m, args, below, meth, c, A, c0, s0, Q, C, hK⟩ := M
  rw [hK] at kk ⊢
  intro hn H locs ls hW hS hL
  obtain ⟨q, hq, he⟩ := wl_get g S ht.2 hi
  rw [en_int g i _ ht.1] at he
  obtain ⟨e1, e2⟩ := ofI_clamp (j := z) (n := nf t) (by omega) hnf
  have e3 : z.toNat = j := by omega
  have hD := Apt.D C.2.2.2.2.2.1.2.2.2.2.1 C.2.2.2.2.2.2.1 S
  refine va_iast (D := g.2.1) C.1 C.2.1 C.2.2.2.2.2.1.2.1 hW hD hS q 0 he rfl e2 d (fun H1 locs1 hP1 _ hS1 => ?_)
  have hW1 := wd_set (f := fun c => if c = j then x else S t i c) hq (by
    rw [en_int g i _ ht.1, e1, e3]
    congr 4
    funext c
    unfold upd
    by_cases hc : c = j <;> simp [hc]) hP1
  rw [← up3_T] at hW1
  exact kk hn H1 locs1 ls hW1 hS1 hL
theorem r_aaldM (M : Mk g own cc nL fr lo N K) {z : Int} (j : Nat) (d : decode cc pc = .ok (.aaload, 1)) (hz : z = (j : Int)) (hj : j < 10) (kk : K n (pc + 1) L (vR 4 j :: st) S) : K n pc L (vI z :: vR 1 0 :: st) S :=
  M.go (fun p e R s m args below meth c A c0 s0 Q C H locs ls hW hS hL hn kk => by
    obtain ⟨q, hq, he⟩ := wl_get g S (t := 1) (i := 0) (by omega) (by decide)
    rw [en_ref g 0 _ rfl] at he
    obtain ⟨e1, e2⟩ := ofI_clamp (j := z) (n := 10) (by omega) (by omega)
    have e3 : z.toNat = j := by omega
    refine va_aldq (D := g.2.1) C.1 C.2.1 C.2.2.2.2.2.1.2.1 hW q 1 he rfl e2 d ?_
    rw [e1, e3]
    exact kk ls hL) kk
theorem kw_alda {p : Program} {l : Launch} {e : Env} {R : Room} {s : State} {m : MethodId} {args : Array Value} {below : List Frame} {meth : Method} {c : Code} {H : Heap} {locs : List Loc} {cells slots : Nat} {Q : State → Prop} {cc : ByteArray} {pc : Nat} {ls : Array Slot} {rest : List Value} {D : va_G} {cl : List vw_C} {a : Nat} {tys : List (ClassId × FieldType)} {ws : va_W} (hexec : p.tables.exec = Jvm.exec) (hb : c.code = cc) (hK : va_K D cl tys s) (hP : va_P D cl ws H) (q0 t0 : Nat) {cA : ClassId} {ty : FieldType} {n : Nat} {f : Nat → Option Nat} (ha : ws[q0]? = some (a, .inl (cA, n, .inr (.inr (.inr (.inr f)))))) (ht : tys[t0]? = some (cA, .array ty)) {i : Int32} (hin : vp_in i n) (hdg : decode cc pc = .ok (.aaload, 1))
    (kk : W p l e R s m args below meth c H locs cells slots Q (F0 m (pc + 1) ls (va_rf (f i.toNatClampNeg) :: rest))) : W p l e R s m args below meth c H locs cells slots Q (F0 m pc ls (.int i :: .ref a :: rest)) := by
  have hlt : i.toNatClampNeg < n := Nat.not_le.mp fun q => hin (Or.inr q)
  exact W.aald (v := va_rf (f i.toNatClampNeg)) (ty := .array ty) hexec hb (hP q0 _ ha) ((hK.2 t0 _ ht).1 n (fun j => va_rf (f j))) rfl (fun q => by cases q) (by show ¬ (i < 0 ∨ (arrV _ _ _).slots.size ≤ _); rw [arrV_size]; exact hin) (by show (arrV _ _ _).slots[_]? = _; rw [arrV_read _ _ hlt]) rfl rfl hdg kk
theorem r_aaldB (M : Mk g own cc nL fr lo N K) {z : Int} (j : Nat) (d : decode cc pc = .ok (.aaload, 1)) (hz : z = (j : Int)) (hj : j < 10) (kk : K n (pc + 1) L (vR 7 j :: st) S) : K n pc L (vI z :: vR 6 0 :: st) S :=
  M.go (fun p e R s m args below meth c A c0 s0 Q C H locs ls hW hS hL hn kk => by
    obtain ⟨q, hq, he⟩ := wl_get g S (t := 6) (i := 0) (by omega) (by decide)
    rw [en_ref g 0 _ rfl] at he
    obtain ⟨e1, e2⟩ := ofI_clamp (j := z) (n := 10) (by omega) (by omega)
    have e3 : z.toNat = j := by omega
    refine kw_alda (D := g.2.1) C.1 C.2.1 C.2.2.2.2.2.1.2.1 hW q 2 he rfl e2 d ?_
    rw [e1, e3]
    exact kk ls hL) kk
theorem r_lald (M : Mk g own cc nL fr lo N K) (d : decode cc pc = .ok (.laload, 1)) (kk : K n (pc + 1) L (vL (S 29 0 0) :: st) S) : K n pc L (vI 0 :: vR 29 0 :: st) S :=
  M.go (fun p e R s m args below meth c A c0 s0 Q C H locs ls hW hS hL hn kk => by
    obtain ⟨q, hq, he⟩ := wl_get g S (t := 29) (i := 0) (by omega) (by decide)
    rw [en_lng g 0 _ rfl] at he
    obtain ⟨e1, e2⟩ := ofI_clamp (j := 0) (n := 1) (by omega) (by omega)
    refine va_lald (D := g.2.1) C.1 C.2.1 C.2.2.2.2.2.1.2.1 hW q 3 he rfl e2 d ?_
    rw [e1]
    exact kk ls hL) kk
theorem r_last (M : Mk g own cc nL fr lo N K) {x : Int} (d : decode cc pc = .ok (.lastore, 1)) (kk : K n (pc + 1) L st (up3 S 29 0 0 x)) : K n pc L (vL x :: vI 0 :: vR 29 0 :: st) S := by
  obtain ⟨p, e, R, s, m, args, below, meth, c, A, c0, s0, Q, C, hK⟩ := M
  rw [hK] at kk ⊢
  intro hn H locs ls hW hS hL
  obtain ⟨q, hq, he⟩ := wl_get g S (t := 29) (i := 0) (by omega) (by decide)
  rw [en_lng g 0 _ rfl] at he
  obtain ⟨e1, e2⟩ := ofI_clamp (j := 0) (n := 1) (by omega) (by omega)
  have hD := Apt.D C.2.2.2.2.2.1.2.2.2.2.1 C.2.2.2.2.2.2.1 S
  refine va_last (D := g.2.1) C.1 C.2.1 C.2.2.2.2.2.1.2.1 hW hD hS q 3 he rfl e2 d (fun H1 locs1 hP1 _ hS1 => ?_)
  have hW1 := wd_set (f := fun c => if c = 0 then x else S 29 0 c) hq (by
    rw [en_lng g 0 _ rfl, e1]
    congr 5
    funext c
    unfold vp_updL
    by_cases hc : c = 0 <;> simp [hc]) hP1
  rw [← up3_T] at hW1
  exact kk hn H1 locs1 ls hW1 hS1 hL
def Mx (own : String) (ix : Nat) : Prop := Cond.methodLink own ix Lib.Math.max.name ∈ WT ∧ Cond.static Lib.Math.max.name ∈ WT ∧ Cond.initialized "java/lang/Math" ∈ WT ∧ Cond.code Lib.Math.max.name Lib.Math.max.code 2 (some .int) ∈ WT
def Mn (own : String) (ix : Nat) : Prop := Cond.methodLink own ix Lib.Math.min.name ∈ WT ∧ Cond.static Lib.Math.min.name ∈ WT ∧ Cond.initialized "java/lang/Math" ∈ WT ∧ Cond.code Lib.Math.min.name Lib.Math.min.code 2 (some .int) ∈ WT
theorem r_max (M : Mk g own cc nL fr lo N K) {ix : Nat} {a b : Int} (d : decode cc pc = .ok (.invokestatic ix, 3)) (hw : Mx own ix) (h : (-2147483648 ≤ a ∧ a ≤ 2147483647) ∧ -2147483648 ≤ b ∧ b ≤ 2147483647) (hR : 1 ≤ fr ∧ 21 ≤ lo) (hcat : (st.map fun v => (cv g v).category).sum ≤ 8) (kk : K n (pc + 3) L (vI (max a b) :: st) S) : K n pc L (vI b :: vI a :: st) S :=
  M.go (fun p e R s m args below meth c A c0 s0 Q C H locs ls hW hS hL hn kk => by
    have hc2 : ((st.map (cv g)).map fun v => v.category).sum ≤ 8 := by rw [List.map_map]; exact hcat
    have hR1 := C.2.2.2.2.2.2.2.2.2.2
    refine va_mmax C.1 C.2.1 (by rw [C.2.2.1]; exact hL.1.symm) C.2.2.2.1 (C.2.2.2.2.1 _ hw.1) (C.2.2.2.2.1 _ hw.2.1) (C.2.2.2.2.1 _ hw.2.2.1) (C.2.2.2.2.1 _ hw.2.2.2) (by omega) (by omega) (by omega) (by omega) d ?_
    have e1 : (if Int32.ofInt a < Int32.ofInt b then Int32.ofInt b else Int32.ofInt a) = Int32.ofInt (max a b) := by
      by_cases q : a < b
      · rw [if_pos ((ofI_lt h.1 h.2).mpr q)]; congr 1; omega
      · rw [if_neg (fun w => q ((ofI_lt h.1 h.2).mp w))]; congr 1; omega
    rw [e1]
    exact kk ls hL) kk
theorem r_min (M : Mk g own cc nL fr lo N K) {ix : Nat} {a b : Int} (d : decode cc pc = .ok (.invokestatic ix, 3)) (hw : Mn own ix) (h : (-2147483648 ≤ a ∧ a ≤ 2147483647) ∧ -2147483648 ≤ b ∧ b ≤ 2147483647) (hR : 1 ≤ fr ∧ 21 ≤ lo) (hcat : (st.map fun v => (cv g v).category).sum ≤ 8) (kk : K n (pc + 3) L (vI (min a b) :: st) S) : K n pc L (vI b :: vI a :: st) S :=
  M.go (fun p e R s m args below meth c A c0 s0 Q C H locs ls hW hS hL hn kk => by
    have hc2 : ((st.map (cv g)).map fun v => v.category).sum ≤ 8 := by rw [List.map_map]; exact hcat
    have hR1 := C.2.2.2.2.2.2.2.2.2.2
    refine va_mmin C.1 C.2.1 (by rw [C.2.2.1]; exact hL.1.symm) C.2.2.2.1 (C.2.2.2.2.1 _ hw.1) (C.2.2.2.2.1 _ hw.2.1) (C.2.2.2.2.1 _ hw.2.2.1) (C.2.2.2.2.1 _ hw.2.2.2) (by omega) (by omega) (by omega) (by omega) d ?_
    have e2 : (if Int32.ofInt b < Int32.ofInt a then Int32.ofInt b else Int32.ofInt a) = Int32.ofInt (min a b) := by
      by_cases q : b < a
      · rw [if_pos ((ofI_lt h.2 h.1).mpr q)]; congr 1; omega
      · rw [if_neg (fun w => q ((ofI_lt h.2 h.1).mp w))]; congr 1; omega
    rw [e2]
    exact kk ls hL) kk
end KH
end
section
/-! ===== contracts, calls, ends, throws ===== -/
section KC
def Qr (g : Gl) (Ret : Option AV → St → Prop) (A : Nat → Prop) : Array Value → State → Outcome → State → Prop := fun _ st oc t => (∃ (v : Option AV) (S' : St), oc = .returned (v.map (cv g)) ∧ Ret v S' ∧ Wd g S' t.heap) ∧ va_F A st t
def XCr (g : Gl) (Thr : String → St → Prop) (A : Nat → Prop) : String → State → State → Prop := fun E st t => ∃ S' : St, Thr E S' ∧ Wd g S' t.heap ∧ va_F A st t
def Pr (g : Gl) (av : List AV) (S : St) (sz : Nat) : Array Value → State → Prop := va_Pc (av.map (cv g)) (fun U => U.heap.size = sz ∧ GV g U ∧ Wd g S U.heap ∧ Zs (Ag g sz) U U.heap)
/-- the contract of a method at these arguments over this world: it ends so that Ret holds, or throws so that Thr holds; at most N throws -/
def Cn (g : Gl) (y : MethodName) (cc : ByteArray) (nL : Nat) (ret : Option FieldType) (fr lo N : Nat) (av : List AV) (S : St) (Ret : Option AV → St → Prop) (Thr : String → St → Prop) : Prop :=
  ∀ sz : Nat, vx_Met g.1 y (Cond.code y cc nL ret :: WT) ({ frames := fr, cells := N, slots := 6 * N, locals := lo }) (Pr g av S sz) (Qr g Ret (Ag g sz)) (XCr g Thr (Ag g sz)) N (6 * N) (Ag g sz)
def CnH (g : Gl) (y : MethodName) (cc : ByteArray) (nL : Nat) (ret : Option FieldType) (hh : List (Nat × Nat × Nat × Nat)) (fr lo N : Nat) (av : List AV) (S : St) (Ret : Option AV → St → Prop) (Thr : String → St → Prop) : Prop :=
  ∀ sz : Nat, vx_Met g.1 y (Cond.codeWith y cc nL ret hh :: WT) ({ frames := fr, cells := N, slots := 6 * N, locals := lo }) (Pr g av S sz) (Qr g Ret (Ag g sz)) (XCr g Thr (Ag g sz)) N (6 * N) (Ag g sz)
theorem Pr_blind (g : Gl) (av : List AV) (S : St) (sz : Nat) : FrameBlind (Pr g av S sz) := fun a U f mk h => by
  obtain ⟨h1, h2, h3, h4, h5⟩ := h
  have hal : U.vm.Alike (U.calling f mk a).vm := Vm.Alike.refl U.vm
  exact ⟨h1, h2, GV.same (u := U) rfl h3, h4, vx_Zq.moved hal h5.1, vx_Zq.moved hal h5.2⟩
theorem Ag_in {g : Gl} {A : Nat → Prop} {sz0 sz : Nat} (h1 : ∀ q, q ∈ prs → A (g.2.2.1 q.1 q.2)) (h2 : ∀ q, sz0 ≤ q → A q) (h : sz0 ≤ sz) : ∀ q, Ag g sz q → A q := fun q hq => by
  rcases hq with ⟨p, hp, rfl⟩ | hq
  · exact h1 p hp
  · exact h2 q (Nat.le_trans h hq)
/-- a method that may throw, its locals at entry, what is left for its end -/
def Mach (g : Gl) (own : String) (cc : ByteArray) (nL : Nat) (ret : Option FieldType) (fr lo N : Nat) (Ret : Option AV → St → Prop) (Thr : String → St → Prop) (K : KT) : Prop :=
  ∃ (p : Program) (e : Env) (R : Room) (s : State) (m : MethodId) (args : Array Value) (below : List Frame) (meth : Method) (c : Code) (A : Nat → Prop), Ctx g own cc nL fr lo N p R s m args meth c A 0 0 ∧ (∀ x ∈ c.exceptionTable.toList, False) ∧ meth.sig.returnType = ret ∧
    ∀ n pc L st S, K n pc L st S ↔ Wk g nL N p e R s m args below meth c A 0 0 (vx_MQ below (Qr g Ret A) (XCr g Thr A) args s N (6 * N) A) n pc L st S
variable {g : Gl} {own : String} {cc : ByteArray} {nL fr lo N : Nat} {ret : Option FieldType} {Ret : Option AV → St → Prop} {Thr : String → St → Prop} {K : KT} {n pc : Nat} {L : List (Option AV)} {st : List AV} {S : St}
theorem Mach.mk (M : Mach g own cc nL ret fr lo N Ret Thr K) : Mk g own cc nL fr lo N K := by
  obtain ⟨p, e, R, s, m, args, below, meth, c, A, C, _, _, hK⟩ := M
  exact ⟨p, e, R, s, m, args, below, meth, c, A, 0, 0, _, C, hK⟩
theorem Mach.ends (M : Mach g own cc nL ret fr lo N Ret Thr K) {v : Option AV} (hv : Ret v S)
    (h : ∀ (p : Program) (e : Env) (R : Room) (s : State) (m : MethodId) (args : Array Value) (below : List Frame) (meth : Method) (c : Code) (A : Nat → Prop), p.tables.exec = Jvm.exec → c.code = cc → meth.sig.returnType = ret → meth.locks = false → ∀ (H : Heap) (locs : List Loc) (ls : Array Slot) (Qc : Array Value → State → Outcome → State → Prop),
      (∀ t : State, t.heap = H → s.WarmedH t.vm → Qc args s (.returned (v.map (cv g))) t) → (∀ q ∈ locs, A q.base) → W p g.1 e R s m args below meth c H locs N (6 * N) (MQ below Qc args s N (6 * N) A) (F0 m pc ls (st.map (cv g)))) : K n pc L st S := by
  obtain ⟨p, e, R, s, m, args, below, meth, c, A, C, _, hr, hK⟩ := M
  rw [hK]
  intro hn H locs ls hW hS hL
  refine W.widen (k := N) (n := 6 * N) (by omega) (by omega) (vx_ret (h p e R s m args below meth c A C.1 C.2.1 hr C.2.2.2.2.2.2.2.2.2.1 H locs ls _ (fun t ht _ => ⟨⟨v, S, rfl, hv, by rw [ht]; exact hW⟩, hS.F ht⟩) hS.2.2))
theorem r_iret (M : Mach g own cc nL (some .int) fr lo N Ret Thr K) {x : Int} (d : decode cc pc = .ok (.ireturn, 1)) (hv : Ret (some (vI x)) S) : K n pc L [vI x] S :=
  M.ends hv (fun p e R s m args below meth c A hx hb hr hlo H locs ls Qc hq hf => W.iret hx hb hr hq hf d hlo)
theorem r_zret (M : Mach g own cc nL (some .boolean) fr lo N Ret Thr K) {x : Int} (d : decode cc pc = .ok (.ireturn, 1)) (h01 : x = 0 ∨ x = 1) (hv : Ret (some (vI x)) S) : K n pc L [vI x] S :=
  M.ends hv (fun p e R s m args below meth c A hx hb hr hlo H locs ls Qc hq hf => W.zret hx hb hr (by rcases h01 with rfl | rfl <;> rfl) hq hf d hlo)
theorem r_vret (M : Mach g own cc nL none fr lo N Ret Thr K) (d : decode cc pc = .ok (.return_, 1)) (hv : Ret none S) : K n pc L [] S :=
  M.ends hv (fun p e R s m args below meth c A hx hb hr hlo H locs ls Qc hq hf => W.vret hx hb hr hq hf d hlo)
theorem r_aret {C9 : String} (M : Mach g own cc nL (some (.object C9)) fr lo N Ret Thr K) {t i : Nat} (d : decode cc pc = .ok (.areturn, 1)) (hv : Ret (some (vR t i)) S) : K n pc L [vR t i] S :=
  M.ends hv (fun p e R s m args below meth c A hx hb hr hlo H locs ls Qc hq hf => W.aret hx hb hr (Or.inl ⟨_, rfl⟩) (Or.inr ⟨_, rfl⟩) hq hf d hlo)
def exN : List String := ["java/lang/RuntimeException", "java/lang/Exception"]
/-- what throw new E("..") needs of the tables -/
def Tk (own : String) (ik is ic : Nat) (E : String) : Prop := (∃ tx, (own, is, tx) ∈ strs) ∧ Bundle.fit E = true ∧ Cond.classLink own ik E ∈ WT ∧ Cond.initialized E ∈ WT ∧ (∀ w ∈ (vx_atS own ic E exN).filter goodWord, w ∈ WT) ∧ (∀ w ∈ (vx_atS own ic E exN).filter (fun w => !goodWord w), w ∈ NW) ∧ (∀ w ∈ Cond.classLink own ik E :: Cond.initialized E :: vx_atS own ic E exN, vx_ot w = true)
theorem nw_before {g : Gl} {s : State} {args : Array Value} (h : GV g s) {w : Cond} (hw : w ∈ NW) : w.before args s = true := va_Nw.use (nest_tab (List.mem_filter.mp hw).2) (h.1 w hw)
theorem Zs.kept {A : Nat → Prop} {U : State} {H H1 : Heap} (h : Zs A U H) (hq : ∀ a : Nat, a < H.size → ¬ A a → H1[a]? = H[a]?) : Zs A U H1 := ⟨vx_Zq.kept h.1 hq, vx_Zq.kept h.2 hq⟩
theorem Zs.narrow {A B : Nat → Prop} {U : State} {H : Heap} (h : Zs A U H) (hAB : ∀ q, B q → A q) : Zs B U H := ⟨vx_Zq.narrow h.1 hAB, vx_Zq.narrow h.2 hAB⟩
theorem Zs.moved {A : Nat → Prop} {u U : State} {H : Heap} (hvm : u.vm.Alike U.vm) (h : Zs A u H) : Zs A U H := ⟨vx_Zq.moved hvm h.1, vx_Zq.moved hvm h.2⟩
theorem wd_keep {g : Gl} {S : St} {H H1 : Heap} (h : Wd g S H) (hq : ∀ q : Nat, q < H.size → H1[q]? = H[q]?) : Wd g S H1 := fun k q hk => (h k q hk).kept (hq _ (h k q hk).lt)
theorem r_throw (M : Mach g own cc nL ret fr lo N Ret Thr K) {ik is ic : Nat} {E : String} (hT : Tk own ik is ic E)
    (d0 : decode cc pc = .ok (.new ik, 3)) (d3 : decode cc (pc + 3) = .ok (.dup, 1)) (d4 : decode cc (pc + 4) = .ok (.ldc is, 2)) (d6 : decode cc (pc + 6) = .ok (.invokespecial ic, 3)) (d9 : decode cc (pc + 9) = .ok (.athrow, 1))
    (hR : 6 ≤ fr ∧ 90 ≤ lo ∧ n + 1 ≤ N) (hcat : (st.map fun v => (cv g v).category).sum ≤ 8) (hE : Thr E S) : K n pc L st S := by
  obtain ⟨p, e, R, s, m, args, below, meth, c, A, C, hx, hr, hK⟩ := M
  rw [hK]
  intro hn H locs ls hW hS hL
  obtain ⟨⟨tx, htx⟩, hfit, h1, h2, h3, h4, h5⟩ := hT
  obtain ⟨sa, hsa⟩ := C.2.2.2.2.2.1.2.2.1 _ htx
  have hR1 := C.2.2.2.2.2.2.2.2.2.2
  have hc2 : ((st.map (cv g)).map fun v => v.category).sum ≤ 8 := by rw [List.map_map]; exact hcat
  refine vx_throwS C.1 C.2.1 C.2.2.2.2.2.1.2.2.2.2.2 C.2.2.2.1 hfit (names := exN) (by decide) (C.2.2.2.2.1 _ h1) (C.2.2.2.2.1 _ h2) hsa (vx_hat (B := NW) (fun w hw => C.2.2.2.2.1 _ (h3 w hw)) h4 (fun w hw => nw_before C.2.2.2.2.2.1 hw)) h5
    C.2.2.2.2.2.2.2.2.1.1 C.2.2.2.2.2.2.2.2.1.2 hS (by rw [C.2.2.1]; exact hL.1) d0 d3 d4 d6 d9 (fun x hxx => (hx x hxx).elim) (by show 2 + 3 < _; omega) (by show _ + (13 * (2 + 1) + 43) ≤ _; omega) (by omega) (by omega) C.2.2.2.2.2.2.2.2.2.1
    (fun t hal hsz hk => ⟨S, hE, wd_keep hW hk, ⟨Nat.le_trans hS.1 hsz, fun q hq hA => by rw [hk q (Nat.lt_of_lt_of_le hq hS.1)]; exact hS.2.1 q hq hA⟩⟩) hS.2.2 (by omega) (by omega)
/-- behind a call -/
theorem run_core {p : Program} {e : Env} {R : Room} {s : State} {m : MethodId} {args : Array Value} {below : List Frame} {meth : Method} {c : Code} {A : Nat → Prop} {c0 s0 Ny : Nat} {Q : State → Prop} (C : Ctx g own cc nL fr lo N p R s m args meth c A c0 s0) {H : Heap} {locs : List Loc} {ls : Array Slot} {st0 rst : List Value} {a : Array Value} (hS : va_S A s.heap H locs)
    (hr : vx_Run p g.1 e R s m args below meth c H locs (c0 + n) (s0 + 6 * n) Ny (6 * Ny) (F0 m pc ls st0) rst (Qr g Ret (Ag g H.size) a) (XCr g Thr (Ag g H.size)) (Ag g H.size))
    (kx : ∀ (E : String) (ce : Cell) (q9 : Addr) (S' : St) (H1 : Heap) (locs1 : List Loc), Thr E S' → Wd g S' H1 → va_S A s.heap H1 locs1 → H1[q9]? = some ce → ce.vm = .none → s.vm.findClass E = some ce.cls → vx_W p g.1 e R s m args below meth c H1 locs1 (c0 + (n + Ny)) (s0 + 6 * (n + Ny)) Q (F0 m pc ls rst) q9)
    (kk : ∀ (v : Option AV) (S' : St) (H1 : Heap) (locs1 : List Loc), Ret v S' → Wd g S' H1 → va_S A s.heap H1 locs1 → W p g.1 e R s m args below meth c H1 locs1 (c0 + (n + Ny)) (s0 + 6 * (n + Ny)) Q (F0 m (pc + 3) ls ((v.map (cv g)).toList ++ rst))) : W p g.1 e R s m args below meth c H locs (c0 + n) (s0 + 6 * n) Q (F0 m pc ls st0) := by
  have e1' : c0 + n + Ny = c0 + (n + Ny) := by omega
  have e2' : s0 + 6 * n + 6 * Ny = s0 + 6 * (n + Ny) := by omega
  have hin := Ag_in C.2.2.2.2.2.2.1 C.2.2.2.2.2.2.2.1 hS.1
  intro T hT X
  rcases hr T hT X with ⟨v, st₀, t, T', L9, h0, X', hL, e1, e2, ⟨⟨v9, S', hv, hp, hb⟩, hF⟩, st9⟩ | ⟨q, st₀, t, T', L9, E, ce, h0, X', hL, e1, e2, ⟨S', hp, hb, hF⟩, hce, hcv, hcl, st9⟩
  · obtain ⟨k1, k2, k3⟩ := vx_keep h0 e1 hS (fun q _ h => hin q h) hin hL hF
    rw [e1', e2'] at X'
    obtain ⟨t2, a1, b1⟩ := kk v9 S' T'.heap (locs ++ L9) hp (by rw [e1]; exact hb) k3 T' rfl X'
    cases hv
    exact ⟨t2, st9 t2 a1, b1⟩
  · obtain ⟨k1, k2, k3⟩ := vx_keep h0 e1 hS (fun q _ h => hin q h) hin hL hF
    rw [e1', e2'] at X'
    obtain ⟨t2, a1, b1⟩ := kx E ce q S' T'.heap (locs ++ L9) hp (by rw [e1]; exact hb) k3 (by rw [e1]; exact hce) hcv hcl T' rfl X'
    exact ⟨t2, st9.trans a1, b1⟩
def Ck (own : String) (ix : Nat) (y : MethodName) (cc : ByteArray) (nL : Nat) (ret : Option FieldType) (na : Nat) : Prop := (Cond.methodLink own ix y ∈ WT ∨ ∃ host, Cond.methodLinkNest own ix y host ∈ NW) ∧ Cond.initialized y.cls ∈ WT ∧ Cond.code y cc nL ret ∈ WT ∧ (y.cls ≠ "java/lang/invoke/MethodHandle" ∧ y.cls ≠ "java/lang/invoke/VarHandle") ∧ (parseMethodDescriptor y.desc).map (fun d => d.parameters.length) = some na
def Vk (y : MethodName) : Prop := Cond.instanceMethod y ∈ WT ∧ Cond.selects y.cls y y ∈ WT
theorem wt_code {y : MethodName} {cc : ByteArray} {nL : Nat} {ret : Option FieldType} (h : Cond.code y cc nL ret ∈ WT) : GoodIn WT (Cond.code y cc nL ret :: WT) := wt_good (fun w hw => (List.mem_cons.mp hw).elim (fun q => q ▸ h) id)
/-- what a call finds at its start -/
theorem pre_of {p : Program} {R : Room} {s : State} {m : MethodId} {args : Array Value} {meth : Method} {c : Code} {A : Nat → Prop} {c0 s0 : Nat} (C : Ctx g own cc nL fr lo N p R s m args meth c A c0 s0) {H : Heap} {locs : List Loc} (hW : Wd g S H) (hS : va_S A s.heap H locs) (av : List AV) :
    ∀ U : State, U.heap = H → s.WarmedH U.vm → Pr g av S H.size (av.map (cv g)).toArray U := fun U hU hWU =>
  ⟨rfl, by rw [hU], GV.warm hWU C.2.2.2.2.2.1, by rw [hU]; exact hW, by
    rw [hU]
    exact Zs.moved hWU.alike (Zs.narrow (Zs.kept C.2.2.2.2.2.2.2.2.1 hS.2.1) (Ag_in C.2.2.2.2.2.2.1 C.2.2.2.2.2.2.2.1 hS.1))⟩
theorem runV_of {p : Program} {e : Env} {R : Room} {s : State} {m : MethodId} {args : Array Value} {below : List Frame} {meth : Method} {c : Code} {A : Nat → Prop} {c0 s0 : Nat} (C : Ctx g own cc nL fr lo N p R s m args meth c A c0 s0) {H : Heap} {locs : List Loc} {ls : Array Slot} (hW : Wd g S H) (hS : va_S A s.heap H locs) (hL : lvs g ls nL L)
    {y : MethodName} {ccy : ByteArray} {nLy fry loy Ny ix na t i : Nat} {rety : Option FieldType} {As rst : List AV} (d : decode cc pc = .ok (.invokevirtual ix, 3)) (hc : Ck own ix y ccy nLy rety na) (hv : Vk y) (hna : As.length = na) (hR : fry + 1 ≤ fr ∧ 8 + (nLy + 11) + loy ≤ lo ∧ n + Ny ≤ N)
    (ht : kd t < 5 ∧ t < 30 ∧ (vwCl[kd t]?).map (fun q => q.1) = some y.cls) (hi : i < ctn t) (hcat : (rst.map fun v => (cv g v).category).sum ≤ 8) (hC : Cn g y ccy nLy rety fry loy Ny (vR t i :: As) S Ret Thr) :
    vx_Run p g.1 e R s m args below meth c H locs (c0 + n) (s0 + 6 * n) Ny (6 * Ny) (F0 m pc ls ((As.reverse ++ vR t i :: rst).map (cv g))) (rst.map (cv g)) (Qr g Ret (Ag g H.size) ((vR t i :: As).map (cv g)).toArray) (XCr g Thr (Ag g H.size)) (Ag g H.size) := by
  obtain ⟨hk1, hk2, hk3, hk4, hk5⟩ := hc
  obtain ⟨q, hq, he⟩ := wl_get g S ht.2.1 hi
  rw [en_obj g i _ ht.1] at he
  obtain ⟨qc, hqc, hqn⟩ := Option.map_eq_some_iff.mp ht.2.2
  have hrecv := va_recv C.2.2.2.2.2.1.2.1 hW hqc he
  rw [hqn] at hrecv
  have hR1 := C.2.2.2.2.2.2.2.2.2.2
  have hst : ((As.reverse ++ vR t i :: rst).map (cv g)) = (As.map (cv g)).reverse ++ .ref (g.2.2.1 t i) :: rst.map (cv g) := by simp [cv]
  have hcat2 : ((rst.map (cv g)).map fun v => v.category).sum ≤ 8 := by rw [List.map_map]; exact hcat
  have hfix : CallFix p m c cc nL s args WT own := ⟨C.1, C.2.1, C.2.2.1, C.2.2.2.1, C.2.2.2.2.1⟩
  rcases hk1 with hk1 | ⟨host, hk1⟩
  · exact vx_runV (C := y.cls) (As := As.map (cv g)) hfix (hC H.size) (cwV na C.2.2.2.2.1 (wt_good (fun w hw => by
        rcases List.mem_append.mp hw with hw | hw
        · simp only [List.mem_cons, List.not_mem_nil, or_false] at hw
          rcases hw with rfl | rfl | rfl | rfl
          · exact hk1
          · exact hv.1
          · exact hv.2
          · exact hk2
        · exact (wt_code hk3 w hw).1)) rfl rfl rfl ⟨rfl, hk4.1, hk4.2, hk5⟩ ⟨by show fry + 1 ≤ _; omega, by show 8 + (nLy + 11) + loy ≤ _; omega⟩)
      ⟨Pr_blind g _ S _, hrecv, pre_of C hW hS (vR t i :: As)⟩ rfl (by rw [List.length_map]; exact hna) (hL.1) (by rw [hst]) (lv_room hcat2) d ⟨by omega, by omega⟩
  · exact vx_runVN (C := y.cls) (As := As.map (cv g)) hfix (hC H.size) ⟨va_cnB na C.2.2.2.2.1 (wt_code hk3) rfl rfl rfl (C.2.2.2.2.2.1.1 _ hk1) (C.2.2.2.2.1 _ hk2) ⟨hk4.1, hk4.2, hk5⟩ ⟨by show fry + 1 ≤ _; omega, by show 8 + (nLy + 11) + loy ≤ _; omega⟩, C.2.2.2.2.1 _ hv.1, C.2.2.2.2.1 _ hv.2⟩
      ⟨Pr_blind g _ S _, hrecv, pre_of C hW hS (vR t i :: As)⟩ rfl (by rw [List.length_map]; exact hna) (hL.1) (by rw [hst]) (lv_room hcat2) d ⟨by omega, by omega⟩
theorem runS_of {p : Program} {e : Env} {R : Room} {s : State} {m : MethodId} {args : Array Value} {below : List Frame} {meth : Method} {c : Code} {A : Nat → Prop} {c0 s0 : Nat} (C : Ctx g own cc nL fr lo N p R s m args meth c A c0 s0) {H : Heap} {locs : List Loc} {ls : Array Slot} (hW : Wd g S H) (hS : va_S A s.heap H locs) (hL : lvs g ls nL L)
    {y : MethodName} {ccy : ByteArray} {nLy fry loy Ny ix na : Nat} {rety : Option FieldType} {As rst : List AV} (d : decode cc pc = .ok (.invokestatic ix, 3)) (hl : Cond.methodLink own ix y ∈ WT) (hst9 : Cond.static y ∈ WT) (how : y.cls = own) (hc : Ck own ix y ccy nLy rety na) (hna : As.length = na) (hR : fry + 1 ≤ fr ∧ 8 + (nLy + 11) + loy ≤ lo ∧ n + Ny ≤ N)
    (hcat : (rst.map fun v => (cv g v).category).sum ≤ 8) (hC : Cn g y ccy nLy rety fry loy Ny As S Ret Thr) :
    vx_Run p g.1 e R s m args below meth c H locs (c0 + n) (s0 + 6 * n) Ny (6 * Ny) (F0 m pc ls ((As.reverse ++ rst).map (cv g))) (rst.map (cv g)) (Qr g Ret (Ag g H.size) (As.map (cv g)).toArray) (XCr g Thr (Ag g H.size)) (Ag g H.size) := by
  obtain ⟨hk1, hk2, hk3, hk4, hk5⟩ := hc
  have hR1 := C.2.2.2.2.2.2.2.2.2.2
  have hst : ((As.reverse ++ rst).map (cv g)) = (As.map (cv g)).reverse ++ rst.map (cv g) := by simp
  have hcat2 : ((rst.map (cv g)).map fun v => v.category).sum ≤ 8 := by rw [List.map_map]; exact hcat
  have hfix : CallFix p m c cc nL s args WT own := ⟨C.1, C.2.1, C.2.2.1, C.2.2.2.1, C.2.2.2.2.1⟩
  exact vx_runS (As := As.map (cv g)) hfix (hC H.size) (cwS na C.2.2.2.2.1 (wt_good (fun w hw => by
        rcases List.mem_append.mp hw with hw | hw
        · simp only [List.mem_cons, List.not_mem_nil, or_false] at hw
          rcases hw with rfl | rfl | rfl
          · exact hl
          · exact hst9
          · rw [how] at hk2; exact hk2
        · exact (wt_code hk3 w hw).1)) rfl rfl rfl ⟨how, hk4.1, hk4.2, hk5⟩ ⟨by show fry + 1 ≤ _; omega, by show 8 + (nLy + 11) + loy ≤ _; omega⟩)
      ⟨Pr_blind g _ S _, pre_of C hW hS As⟩ rfl (by rw [List.length_map]; exact hna) (hL.1) (by rw [hst]) (lv_room hcat2) d ⟨by omega, by omega⟩
/-- what stands on the stack behind a call -/
def pv (v : Option AV) (r : List AV) : List AV := match v with
  | some x => x :: r
  | none => r
theorem pv_map (g : Gl) (v : Option AV) (r : List AV) : (v.map (cv g)).toList ++ r.map (cv g) = (pv v r).map (cv g) := by
  cases v <;> rfl
/-- an uncaught throw leaves the method -/
theorem Mach.leave (M : Mach g own cc nL ret fr lo N Ret Thr K) {T9 : Prop} (h : ∀ (p : Program) (e : Env) (R : Room) (s : State) (m : MethodId) (args : Array Value) (below : List Frame) (meth : Method) (c : Code) (A : Nat → Prop) (Q : State → Prop), Ctx g own cc nL fr lo N p R s m args meth c A 0 0 → (∀ n pc L st S, K n pc L st S ↔ Wk g nL N p e R s m args below meth c A 0 0 Q n pc L st S) →
    (∀ (n pc : Nat) (ls : Array Slot) (rst : List Value) (E : String) (ce : Cell) (q9 : Addr) (S' : St) (H1 : Heap) (locs1 : List Loc), n ≤ N → Thr E S' → Wd g S' H1 → va_S A s.heap H1 locs1 → H1[q9]? = some ce → ce.vm = .none → s.vm.findClass E = some ce.cls → vx_W p g.1 e R s m args below meth c H1 locs1 (0 + n) (0 + 6 * n) Q (F0 m pc ls rst) q9) → T9) : T9 := by
  obtain ⟨p, e, R, s, m, args, below, meth, c, A, C, hx, hr, hK⟩ := M
  refine h p e R s m args below meth c A _ C hK (fun n pc ls rst E ce q9 S' H1 locs1 hn hE hW hS hce hcv hcl => ?_)
  exact vx_out (fun x hxx => (hx x hxx).elim) C.2.2.2.2.2.2.2.2.2.1 hce hcv hcl (fun t ht hal => ⟨S', hE, by rw [ht]; exact hW, hS.F ht⟩) hS.2.2 (by omega) (by omega)
theorem r_callV (M : Mach g own cc nL ret fr lo N Ret Thr K) {y : MethodName} {ccy : ByteArray} {nLy fry loy Ny ix na t i : Nat} {rety : Option FieldType} {As rst : List AV} (d : decode cc pc = .ok (.invokevirtual ix, 3)) (hc : Ck own ix y ccy nLy rety na) (hv : Vk y) (hna : As.length = na) (hR : fry + 1 ≤ fr ∧ 8 + (nLy + 11) + loy ≤ lo ∧ n + Ny ≤ N)
    (ht : kd t < 5 ∧ t < 30 ∧ (vwCl[kd t]?).map (fun q => q.1) = some y.cls) (hi : i < ctn t) (hcat : (rst.map fun v => (cv g v).category).sum ≤ 8) (hC : Cn g y ccy nLy rety fry loy Ny (vR t i :: As) S (fun v S' => K (n + Ny) (pc + 3) L (pv v rst) S') Thr) : K n pc L (As.reverse ++ vR t i :: rst) S := by
  refine M.leave (fun p e R s m args below meth c A Q C hK hout => ?_)
  rw [hK]
  intro hn H locs ls hW hS hL
  refine run_core C hS (runV_of C hW hS hL d hc hv hna hR ht hi hcat hC) (fun E ce q9 S' H1 locs1 hE hW1 hS1 h1 h2 h3 => hout (n + Ny) pc ls _ E ce q9 S' H1 locs1 hR.2.2 hE hW1 hS1 h1 h2 h3) (fun v S' H1 locs1 hk hW1 hS1 => ?_)
  rw [pv_map]
  exact (hK _ _ _ _ _).mp hk hR.2.2 H1 locs1 ls hW1 hS1 hL
theorem r_callS (M : Mach g own cc nL ret fr lo N Ret Thr K) {y : MethodName} {ccy : ByteArray} {nLy fry loy Ny ix na : Nat} {rety : Option FieldType} {As rst : List AV} (d : decode cc pc = .ok (.invokestatic ix, 3)) (hl : Cond.methodLink own ix y ∈ WT) (hst9 : Cond.static y ∈ WT) (how : y.cls = own) (hc : Ck own ix y ccy nLy rety na) (hna : As.length = na) (hR : fry + 1 ≤ fr ∧ 8 + (nLy + 11) + loy ≤ lo ∧ n + Ny ≤ N)
    (hcat : (rst.map fun v => (cv g v).category).sum ≤ 8) (hC : Cn g y ccy nLy rety fry loy Ny As S (fun v S' => K (n + Ny) (pc + 3) L (pv v rst) S') Thr) : K n pc L (As.reverse ++ rst) S := by
  refine M.leave (fun p e R s m args below meth c A Q C hK hout => ?_)
  rw [hK]
  intro hn H locs ls hW hS hL
  refine run_core C hS (runS_of C hW hS hL d hl hst9 how hc hna hR hcat hC) (fun E ce q9 S' H1 locs1 hE hW1 hS1 h1 h2 h3 => hout (n + Ny) pc ls _ E ce q9 S' H1 locs1 hR.2.2 hE hW1 hS1 h1 h2 h3) (fun v S' H1 locs1 hk hW1 hS1 => ?_)
  rw [pv_map]
  exact (hK _ _ _ _ _).mp hk hR.2.2 H1 locs1 ls hW1 hS1 hL
/-- a walk of the body gives the contract -/
theorem enter {y : MethodName} {av : List AV} (hy : plainName y.cls = true) (hlen : (lg_sl (av.map (cv g))).length ≤ nL) (hLL : lvl g L = lv_args 0 (av.map (cv g)))
    (h : ∀ K : KT, Mach g y.cls cc nL ret fr lo N Ret Thr K → K 0 0 L [] S) : Cn g y cc nL ret fr lo N av S Ret Thr := by
  intro sz
  refine vx_ofW (cc := cc) (maxL := nL) (ret := ret) hy rfl ?_
  intro p e s m args below meth c s₁ B hml hex hv
  obtain ⟨rfl, hsz, hG, hW, hZ⟩ := hv
  subst hsz
  have hts0 := atoms_spec (ws := Cond.code y cc nL ret :: WT) B.pre
  have C : Ctx g y.cls cc nL fr lo N p (headSpec (Cond.code y cc nL ret :: WT) ({ frames := fr, cells := N, slots := 6 * N, locals := lo })).room s m (av.map (cv g)).toArray meth c (Ag g s.heap.size) 0 0 :=
    ⟨B.exec, B.bytes, hml, findClass_of_methodNamed B.named, fun w hw => hts0 w (List.mem_cons_of_mem _ hw), hG, fun q hq => Or.inl ⟨q, hq, rfl⟩, fun q hq => Or.inr hq, hZ, B.notSynchronized, Nat.le_refl _, Nat.le_refl _, by show 0 + N ≤ N; omega, by show 0 + 6 * N ≤ 6 * N; omega⟩
  have k := h (Wk g nL N p e (headSpec (Cond.code y cc nL ret :: WT) ({ frames := fr, cells := N, slots := 6 * N, locals := lo })).room s m (av.map (cv g)).toArray below meth c (Ag g s.heap.size) 0 0 (vx_MQ below (Qr g Ret (Ag g s.heap.size)) (XCr g Thr (Ag g s.heap.size)) (av.map (cv g)).toArray s N (6 * N) (Ag g s.heap.size)))
    ⟨p, e, _, s, m, _, below, meth, c, _, C, fun x hx => (hex x hx).elim, B.returns, fun _ _ _ _ _ => Iff.rfl⟩
  have hl := lv_entry (av.map (cv g)) (n := nL) hlen
  rw [lg_entry_eq]
  refine k (Nat.zero_le _) s.heap [] _ hW va_S.rf ⟨hl.1, hl.2.1, fun j v hj => ?_⟩
  exact hl.2.2 (j, cv g v) (by rw [← hLL]; exact lvl_mem.mpr ⟨v, hj, rfl⟩)
end KC
end
