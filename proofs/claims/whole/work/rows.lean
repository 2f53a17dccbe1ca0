section
-- ===== PART A: goes FIRST, ahead of the names: the tables' words, and 'selects' of the private methods out of them =====
/-- a private method of a class that the tables say can be made, by its rows of tables_1 -/
def lw_okq (q : MethodName × Nat) : Prop := (q.1.cls ≠ "java/lang/invoke/MethodHandle" ∧ q.1.cls ≠ "java/lang/invoke/VarHandle") ∧ Cond.instantiable q.1.cls q.2 ∈ tables_1 ∧ Cond.privateMethod q.1 ∈ tables_1 ∧ Cond.instanceMethod q.1 ∈ tables_1
theorem lw_p0 : lw_okq (⟨"CoinSorter$Row", "fillWithZeros", "(I)V"⟩, 2) := ⟨⟨by decide +kernel, by decide +kernel⟩, List.mem_of_getElem? (i := 88) (by decide +kernel), List.mem_of_getElem? (i := 184) (by decide +kernel), List.mem_of_getElem? (i := 185) (by decide +kernel)⟩
theorem lw_p1 : lw_okq (⟨"java/lang/Throwable", "fillInStackTrace", "(I)Ljava/lang/Throwable;"⟩, 6) := ⟨⟨by decide +kernel, by decide +kernel⟩, List.mem_of_getElem? (i := 236) (by decide +kernel), List.mem_of_getElem? (i := 234) (by decide +kernel), List.mem_of_getElem? (i := 235) (by decide +kernel)⟩
theorem lw_p2 : lw_okq (⟨"CoinSorter", "appendWord", "(I)V"⟩, 12) := ⟨⟨by decide +kernel, by decide +kernel⟩, List.mem_of_getElem? (i := 32) (by decide +kernel), List.mem_of_getElem? (i := 704) (by decide +kernel), List.mem_of_getElem? (i := 705) (by decide +kernel)⟩
theorem lw_p3 : lw_okq (⟨"CoinSorter$Config", "reset", "()V"⟩, 7) := ⟨⟨by decide +kernel, by decide +kernel⟩, List.mem_of_getElem? (i := 76) (by decide +kernel), List.mem_of_getElem? (i := 712) (by decide +kernel), List.mem_of_getElem? (i := 713) (by decide +kernel)⟩
theorem lw_p4 : lw_okq (⟨"CoinSorter$Kinds", "empty", "()V"⟩, 5) := ⟨⟨by decide +kernel, by decide +kernel⟩, List.mem_of_getElem? (i := 82) (by decide +kernel), List.mem_of_getElem? (i := 716) (by decide +kernel), List.mem_of_getElem? (i := 717) (by decide +kernel)⟩
theorem lw_p5 : lw_okq (⟨"CoinSorter$Row", "empty", "()V"⟩, 2) := ⟨⟨by decide +kernel, by decide +kernel⟩, List.mem_of_getElem? (i := 88) (by decide +kernel), List.mem_of_getElem? (i := 720) (by decide +kernel), List.mem_of_getElem? (i := 721) (by decide +kernel)⟩
theorem lw_p6 : lw_okq (⟨"CoinSorter$Parser", "begin", "([BI)V"⟩, 9) := ⟨⟨by decide +kernel, by decide +kernel⟩, List.mem_of_getElem? (i := 40) (by decide +kernel), List.mem_of_getElem? (i := 725) (by decide +kernel), List.mem_of_getElem? (i := 726) (by decide +kernel)⟩
theorem lw_p7 : lw_okq (⟨"CoinSorter$Parser", "hasStatement", "()Z"⟩, 9) := ⟨⟨by decide +kernel, by decide +kernel⟩, List.mem_of_getElem? (i := 40) (by decide +kernel), List.mem_of_getElem? (i := 729) (by decide +kernel), List.mem_of_getElem? (i := 730) (by decide +kernel)⟩
theorem lw_p8 : lw_okq (⟨"CoinSorter$Parser", "readToken", "()V"⟩, 9) := ⟨⟨by decide +kernel, by decide +kernel⟩, List.mem_of_getElem? (i := 40) (by decide +kernel), List.mem_of_getElem? (i := 733) (by decide +kernel), List.mem_of_getElem? (i := 734) (by decide +kernel)⟩
theorem lw_p9 : lw_okq (⟨"CoinSorter$Parser", "endOfRun", "(II)I"⟩, 9) := ⟨⟨by decide +kernel, by decide +kernel⟩, List.mem_of_getElem? (i := 40) (by decide +kernel), List.mem_of_getElem? (i := 737) (by decide +kernel), List.mem_of_getElem? (i := 738) (by decide +kernel)⟩
theorem lw_p10 : lw_okq (⟨"CoinSorter$Parser", "byteAt", "(I)I"⟩, 9) := ⟨⟨by decide +kernel, by decide +kernel⟩, List.mem_of_getElem? (i := 40) (by decide +kernel), List.mem_of_getElem? (i := 741) (by decide +kernel), List.mem_of_getElem? (i := 742) (by decide +kernel)⟩
theorem lw_p11 : lw_okq (⟨"CoinSorter$Parser", "readStatement", "(LCoinSorter$Config;)V"⟩, 9) := ⟨⟨by decide +kernel, by decide +kernel⟩, List.mem_of_getElem? (i := 40) (by decide +kernel), List.mem_of_getElem? (i := 748) (by decide +kernel), List.mem_of_getElem? (i := 749) (by decide +kernel)⟩
theorem lw_p12 : lw_okq (⟨"CoinSorter$Parser", "isWord", "(Ljava/lang/String;)Z"⟩, 9) := ⟨⟨by decide +kernel, by decide +kernel⟩, List.mem_of_getElem? (i := 40) (by decide +kernel), List.mem_of_getElem? (i := 753) (by decide +kernel), List.mem_of_getElem? (i := 754) (by decide +kernel)⟩
theorem lw_p13 : lw_okq (⟨"CoinSorter$Parser", "readKind", "(LCoinSorter$Kinds;Z)V"⟩, 9) := ⟨⟨by decide +kernel, by decide +kernel⟩, List.mem_of_getElem? (i := 40) (by decide +kernel), List.mem_of_getElem? (i := 782) (by decide +kernel), List.mem_of_getElem? (i := 783) (by decide +kernel)⟩
theorem lw_p14 : lw_okq (⟨"CoinSorter$Row", "isFull", "()Z"⟩, 2) := ⟨⟨by decide +kernel, by decide +kernel⟩, List.mem_of_getElem? (i := 88) (by decide +kernel), List.mem_of_getElem? (i := 786) (by decide +kernel), List.mem_of_getElem? (i := 787) (by decide +kernel)⟩
theorem lw_p15 : lw_okq (⟨"CoinSorter$Parser", "failIf", "(ZI)V"⟩, 9) := ⟨⟨by decide +kernel, by decide +kernel⟩, List.mem_of_getElem? (i := 40) (by decide +kernel), List.mem_of_getElem? (i := 790) (by decide +kernel), List.mem_of_getElem? (i := 791) (by decide +kernel)⟩
def lw_privs_1 : List (MethodName × Nat) := [(⟨"CoinSorter$Row", "fillWithZeros", "(I)V"⟩, 2), (⟨"java/lang/Throwable", "fillInStackTrace", "(I)Ljava/lang/Throwable;"⟩, 6), (⟨"CoinSorter", "appendWord", "(I)V"⟩, 12), (⟨"CoinSorter$Config", "reset", "()V"⟩, 7), (⟨"CoinSorter$Kinds", "empty", "()V"⟩, 5), (⟨"CoinSorter$Row", "empty", "()V"⟩, 2), (⟨"CoinSorter$Parser", "begin", "([BI)V"⟩, 9), (⟨"CoinSorter$Parser", "hasStatement", "()Z"⟩, 9), (⟨"CoinSorter$Parser", "readToken", "()V"⟩, 9), (⟨"CoinSorter$Parser", "endOfRun", "(II)I"⟩, 9), (⟨"CoinSorter$Parser", "byteAt", "(I)I"⟩, 9), (⟨"CoinSorter$Parser", "readStatement", "(LCoinSorter$Config;)V"⟩, 9), (⟨"CoinSorter$Parser", "isWord", "(Ljava/lang/String;)Z"⟩, 9), (⟨"CoinSorter$Parser", "readKind", "(LCoinSorter$Kinds;Z)V"⟩, 9), (⟨"CoinSorter$Row", "isFull", "()Z"⟩, 2), (⟨"CoinSorter$Parser", "failIf", "(ZI)V"⟩, 9)]
theorem lw_r1 : ∀ q ∈ lw_privs_1, lw_okq q := List.forall_mem_cons.mpr ⟨lw_p0, List.forall_mem_cons.mpr ⟨lw_p1, List.forall_mem_cons.mpr ⟨lw_p2, List.forall_mem_cons.mpr ⟨lw_p3, List.forall_mem_cons.mpr ⟨lw_p4, List.forall_mem_cons.mpr ⟨lw_p5, List.forall_mem_cons.mpr ⟨lw_p6, List.forall_mem_cons.mpr ⟨lw_p7, List.forall_mem_cons.mpr ⟨lw_p8, List.forall_mem_cons.mpr ⟨lw_p9, List.forall_mem_cons.mpr ⟨lw_p10, List.forall_mem_cons.mpr ⟨lw_p11, List.forall_mem_cons.mpr ⟨lw_p12, List.forall_mem_cons.mpr ⟨lw_p13, List.forall_mem_cons.mpr ⟨lw_p14, List.forall_mem_cons.mpr ⟨lw_p15, fun _ h => absurd h List.not_mem_nil⟩⟩⟩⟩⟩⟩⟩⟩⟩⟩⟩⟩⟩⟩⟩⟩
theorem lw_p16 : lw_okq (⟨"CoinSorter$Parser", "readNumber", "(II)I"⟩, 9) := ⟨⟨by decide +kernel, by decide +kernel⟩, List.mem_of_getElem? (i := 40) (by decide +kernel), List.mem_of_getElem? (i := 794) (by decide +kernel), List.mem_of_getElem? (i := 795) (by decide +kernel)⟩
theorem lw_p17 : lw_okq (⟨"CoinSorter$Parser", "number", "()I"⟩, 9) := ⟨⟨by decide +kernel, by decide +kernel⟩, List.mem_of_getElem? (i := 40) (by decide +kernel), List.mem_of_getElem? (i := 798) (by decide +kernel), List.mem_of_getElem? (i := 799) (by decide +kernel)⟩
theorem lw_p18 : lw_okq (⟨"CoinSorter$Row", "add", "(I)V"⟩, 2) := ⟨⟨by decide +kernel, by decide +kernel⟩, List.mem_of_getElem? (i := 88) (by decide +kernel), List.mem_of_getElem? (i := 802) (by decide +kernel), List.mem_of_getElem? (i := 803) (by decide +kernel)⟩
theorem lw_p19 : lw_okq (⟨"CoinSorter$Parser", "readBin", "(LCoinSorter$Config;)V"⟩, 9) := ⟨⟨by decide +kernel, by decide +kernel⟩, List.mem_of_getElem? (i := 40) (by decide +kernel), List.mem_of_getElem? (i := 808) (by decide +kernel), List.mem_of_getElem? (i := 809) (by decide +kernel)⟩
theorem lw_p20 : lw_okq (⟨"CoinSorter$Kinds", "count", "()I"⟩, 5) := ⟨⟨by decide +kernel, by decide +kernel⟩, List.mem_of_getElem? (i := 82) (by decide +kernel), List.mem_of_getElem? (i := 812) (by decide +kernel), List.mem_of_getElem? (i := 813) (by decide +kernel)⟩
theorem lw_p21 : lw_okq (⟨"CoinSorter$Parser", "readSemicolon", "()V"⟩, 9) := ⟨⟨by decide +kernel, by decide +kernel⟩, List.mem_of_getElem? (i := 40) (by decide +kernel), List.mem_of_getElem? (i := 819) (by decide +kernel), List.mem_of_getElem? (i := 820) (by decide +kernel)⟩
theorem lw_p22 : lw_okq (⟨"CoinSorter", "takeSpareConfig", "()V"⟩, 12) := ⟨⟨by decide +kernel, by decide +kernel⟩, List.mem_of_getElem? (i := 32) (by decide +kernel), List.mem_of_getElem? (i := 823) (by decide +kernel), List.mem_of_getElem? (i := 824) (by decide +kernel)⟩
theorem lw_p23 : lw_okq (⟨"CoinSorter$State", "reset", "(LCoinSorter$Config;)V"⟩, 15) := ⟨⟨by decide +kernel, by decide +kernel⟩, List.mem_of_getElem? (i := 176) (by decide +kernel), List.mem_of_getElem? (i := 827) (by decide +kernel), List.mem_of_getElem? (i := 828) (by decide +kernel)⟩
theorem lw_p24 : lw_okq (⟨"CoinSorter$History", "forget", "()V"⟩, 3) := ⟨⟨by decide +kernel, by decide +kernel⟩, List.mem_of_getElem? (i := 587) (by decide +kernel), List.mem_of_getElem? (i := 832) (by decide +kernel), List.mem_of_getElem? (i := 833) (by decide +kernel)⟩
theorem lw_p25 : lw_okq (⟨"CoinSorter$Row", "at", "(I)I"⟩, 2) := ⟨⟨by decide +kernel, by decide +kernel⟩, List.mem_of_getElem? (i := 88) (by decide +kernel), List.mem_of_getElem? (i := 853) (by decide +kernel), List.mem_of_getElem? (i := 854) (by decide +kernel)⟩
theorem lw_p26 : lw_okq (⟨"CoinSorter", "nextOutcome", "()I"⟩, 12) := ⟨⟨by decide +kernel, by decide +kernel⟩, List.mem_of_getElem? (i := 32) (by decide +kernel), List.mem_of_getElem? (i := 897) (by decide +kernel), List.mem_of_getElem? (i := 898) (by decide +kernel)⟩
theorem lw_p27 : lw_okq (⟨"CoinSorter", "nextInLoop", "()I"⟩, 12) := ⟨⟨by decide +kernel, by decide +kernel⟩, List.mem_of_getElem? (i := 32) (by decide +kernel), List.mem_of_getElem? (i := 901) (by decide +kernel), List.mem_of_getElem? (i := 902) (by decide +kernel)⟩
theorem lw_p28 : lw_okq (⟨"CoinSorter", "isType", "(I)Z"⟩, 12) := ⟨⟨by decide +kernel, by decide +kernel⟩, List.mem_of_getElem? (i := 32) (by decide +kernel), List.mem_of_getElem? (i := 909) (by decide +kernel), List.mem_of_getElem? (i := 910) (by decide +kernel)⟩
theorem lw_p29 : lw_okq (⟨"CoinSorter$Row", "has", "(I)Z"⟩, 2) := ⟨⟨by decide +kernel, by decide +kernel⟩, List.mem_of_getElem? (i := 88) (by decide +kernel), List.mem_of_getElem? (i := 913) (by decide +kernel), List.mem_of_getElem? (i := 914) (by decide +kernel)⟩
theorem lw_p30 : lw_okq (⟨"CoinSorter", "outcomeOf", "(II)I"⟩, 12) := ⟨⟨by decide +kernel, by decide +kernel⟩, List.mem_of_getElem? (i := 32) (by decide +kernel), List.mem_of_getElem? (i := 923) (by decide +kernel), List.mem_of_getElem? (i := 924) (by decide +kernel)⟩
theorem lw_p31 : lw_okq (⟨"CoinSorter", "verdict", "(III)I"⟩, 12) := ⟨⟨by decide +kernel, by decide +kernel⟩, List.mem_of_getElem? (i := 32) (by decide +kernel), List.mem_of_getElem? (i := 927) (by decide +kernel), List.mem_of_getElem? (i := 928) (by decide +kernel)⟩
def lw_privs_2 : List (MethodName × Nat) := [(⟨"CoinSorter$Parser", "readNumber", "(II)I"⟩, 9), (⟨"CoinSorter$Parser", "number", "()I"⟩, 9), (⟨"CoinSorter$Row", "add", "(I)V"⟩, 2), (⟨"CoinSorter$Parser", "readBin", "(LCoinSorter$Config;)V"⟩, 9), (⟨"CoinSorter$Kinds", "count", "()I"⟩, 5), (⟨"CoinSorter$Parser", "readSemicolon", "()V"⟩, 9), (⟨"CoinSorter", "takeSpareConfig", "()V"⟩, 12), (⟨"CoinSorter$State", "reset", "(LCoinSorter$Config;)V"⟩, 15), (⟨"CoinSorter$History", "forget", "()V"⟩, 3), (⟨"CoinSorter$Row", "at", "(I)I"⟩, 2), (⟨"CoinSorter", "nextOutcome", "()I"⟩, 12), (⟨"CoinSorter", "nextInLoop", "()I"⟩, 12), (⟨"CoinSorter", "isType", "(I)Z"⟩, 12), (⟨"CoinSorter$Row", "has", "(I)Z"⟩, 2), (⟨"CoinSorter", "outcomeOf", "(II)I"⟩, 12), (⟨"CoinSorter", "verdict", "(III)I"⟩, 12)]
theorem lw_r2 : ∀ q ∈ lw_privs_2, lw_okq q := List.forall_mem_cons.mpr ⟨lw_p16, List.forall_mem_cons.mpr ⟨lw_p17, List.forall_mem_cons.mpr ⟨lw_p18, List.forall_mem_cons.mpr ⟨lw_p19, List.forall_mem_cons.mpr ⟨lw_p20, List.forall_mem_cons.mpr ⟨lw_p21, List.forall_mem_cons.mpr ⟨lw_p22, List.forall_mem_cons.mpr ⟨lw_p23, List.forall_mem_cons.mpr ⟨lw_p24, List.forall_mem_cons.mpr ⟨lw_p25, List.forall_mem_cons.mpr ⟨lw_p26, List.forall_mem_cons.mpr ⟨lw_p27, List.forall_mem_cons.mpr ⟨lw_p28, List.forall_mem_cons.mpr ⟨lw_p29, List.forall_mem_cons.mpr ⟨lw_p30, List.forall_mem_cons.mpr ⟨lw_p31, fun _ h => absurd h List.not_mem_nil⟩⟩⟩⟩⟩⟩⟩⟩⟩⟩⟩⟩⟩⟩⟩⟩
theorem lw_p32 : lw_okq (⟨"CoinSorter$Judge", "examine", "(LCoinSorter$Config;II)V"⟩, 2) := ⟨⟨by decide +kernel, by decide +kernel⟩, List.mem_of_getElem? (i := 607) (by decide +kernel), List.mem_of_getElem? (i := 931) (by decide +kernel), List.mem_of_getElem? (i := 932) (by decide +kernel)⟩
theorem lw_p33 : lw_okq (⟨"CoinSorter$Kinds", "scoreOf", "(III)I"⟩, 5) := ⟨⟨by decide +kernel, by decide +kernel⟩, List.mem_of_getElem? (i := 82) (by decide +kernel), List.mem_of_getElem? (i := 937) (by decide +kernel), List.mem_of_getElem? (i := 938) (by decide +kernel)⟩
theorem lw_p34 : lw_okq (⟨"CoinSorter$Judge", "verdictAt", "(I)I"⟩, 2) := ⟨⟨by decide +kernel, by decide +kernel⟩, List.mem_of_getElem? (i := 607) (by decide +kernel), List.mem_of_getElem? (i := 947) (by decide +kernel), List.mem_of_getElem? (i := 948) (by decide +kernel)⟩
theorem lw_p35 : lw_okq (⟨"CoinSorter", "hasBin", "(I)Z"⟩, 12) := ⟨⟨by decide +kernel, by decide +kernel⟩, List.mem_of_getElem? (i := 32) (by decide +kernel), List.mem_of_getElem? (i := 951) (by decide +kernel), List.mem_of_getElem? (i := 952) (by decide +kernel)⟩
theorem lw_p36 : lw_okq (⟨"CoinSorter", "discrepancyOf", "(I)I"⟩, 12) := ⟨⟨by decide +kernel, by decide +kernel⟩, List.mem_of_getElem? (i := 32) (by decide +kernel), List.mem_of_getElem? (i := 995) (by decide +kernel), List.mem_of_getElem? (i := 996) (by decide +kernel)⟩
theorem lw_p37 : lw_okq (⟨"CoinSorter", "planPayout", "(I)I"⟩, 12) := ⟨⟨by decide +kernel, by decide +kernel⟩, List.mem_of_getElem? (i := 32) (by decide +kernel), List.mem_of_getElem? (i := 1013) (by decide +kernel), List.mem_of_getElem? (i := 1014) (by decide +kernel)⟩
theorem lw_p38 : lw_okq (⟨"CoinSorter$Payout", "takeStock", "(LCoinSorter$Config;LCoinSorter$Row;)V"⟩, 5) := ⟨⟨by decide +kernel, by decide +kernel⟩, List.mem_of_getElem? (i := 622) (by decide +kernel), List.mem_of_getElem? (i := 1017) (by decide +kernel), List.mem_of_getElem? (i := 1018) (by decide +kernel)⟩
theorem lw_p39 : lw_okq (⟨"CoinSorter$Payout", "plan", "(LCoinSorter$Row;I)I"⟩, 5) := ⟨⟨by decide +kernel, by decide +kernel⟩, List.mem_of_getElem? (i := 622) (by decide +kernel), List.mem_of_getElem? (i := 1025) (by decide +kernel), List.mem_of_getElem? (i := 1026) (by decide +kernel)⟩
theorem lw_p40 : lw_okq (⟨"CoinSorter$Payout", "weighType", "(IIJI)V"⟩, 5) := ⟨⟨by decide +kernel, by decide +kernel⟩, List.mem_of_getElem? (i := 622) (by decide +kernel), List.mem_of_getElem? (i := 1034) (by decide +kernel), List.mem_of_getElem? (i := 1035) (by decide +kernel)⟩
theorem lw_p41 : lw_okq (⟨"CoinSorter$Payout", "weighPacket", "(IJI)V"⟩, 5) := ⟨⟨by decide +kernel, by decide +kernel⟩, List.mem_of_getElem? (i := 622) (by decide +kernel), List.mem_of_getElem? (i := 1038) (by decide +kernel), List.mem_of_getElem? (i := 1039) (by decide +kernel)⟩
theorem lw_p42 : lw_okq (⟨"CoinSorter$Payout", "readCoins", "(J)I"⟩, 5) := ⟨⟨by decide +kernel, by decide +kernel⟩, List.mem_of_getElem? (i := 622) (by decide +kernel), List.mem_of_getElem? (i := 1042) (by decide +kernel), List.mem_of_getElem? (i := 1043) (by decide +kernel)⟩
theorem lw_p43 : lw_okq (⟨"CoinSorter$Tuning", "begin", "()V"⟩, 2) := ⟨⟨by decide +kernel, by decide +kernel⟩, List.mem_of_getElem? (i := 648) (by decide +kernel), List.mem_of_getElem? (i := 1070) (by decide +kernel), List.mem_of_getElem? (i := 1071) (by decide +kernel)⟩
theorem lw_p44 : lw_okq (⟨"CoinSorter$Tuning", "add", "(II)V"⟩, 2) := ⟨⟨by decide +kernel, by decide +kernel⟩, List.mem_of_getElem? (i := 648) (by decide +kernel), List.mem_of_getElem? (i := 1075) (by decide +kernel), List.mem_of_getElem? (i := 1076) (by decide +kernel)⟩
theorem lw_p45 : lw_okq (⟨"CoinSorter$Tuning", "best", "()I"⟩, 2) := ⟨⟨by decide +kernel, by decide +kernel⟩, List.mem_of_getElem? (i := 648) (by decide +kernel), List.mem_of_getElem? (i := 1080) (by decide +kernel), List.mem_of_getElem? (i := 1081) (by decide +kernel)⟩
theorem lw_p46 : lw_okq (⟨"CoinSorter$Tuning", "riseAt", "(I)I"⟩, 2) := ⟨⟨by decide +kernel, by decide +kernel⟩, List.mem_of_getElem? (i := 648) (by decide +kernel), List.mem_of_getElem? (i := 1085) (by decide +kernel), List.mem_of_getElem? (i := 1086) (by decide +kernel)⟩
theorem lw_p47 : lw_okq (⟨"CoinSorter$History", "push", "(LCoinSorter$State;)V"⟩, 3) := ⟨⟨by decide +kernel, by decide +kernel⟩, List.mem_of_getElem? (i := 587) (by decide +kernel), List.mem_of_getElem? (i := 1096) (by decide +kernel), List.mem_of_getElem? (i := 1097) (by decide +kernel)⟩
def lw_privs_3 : List (MethodName × Nat) := [(⟨"CoinSorter$Judge", "examine", "(LCoinSorter$Config;II)V"⟩, 2), (⟨"CoinSorter$Kinds", "scoreOf", "(III)I"⟩, 5), (⟨"CoinSorter$Judge", "verdictAt", "(I)I"⟩, 2), (⟨"CoinSorter", "hasBin", "(I)Z"⟩, 12), (⟨"CoinSorter", "discrepancyOf", "(I)I"⟩, 12), (⟨"CoinSorter", "planPayout", "(I)I"⟩, 12), (⟨"CoinSorter$Payout", "takeStock", "(LCoinSorter$Config;LCoinSorter$Row;)V"⟩, 5), (⟨"CoinSorter$Payout", "plan", "(LCoinSorter$Row;I)I"⟩, 5), (⟨"CoinSorter$Payout", "weighType", "(IIJI)V"⟩, 5), (⟨"CoinSorter$Payout", "weighPacket", "(IJI)V"⟩, 5), (⟨"CoinSorter$Payout", "readCoins", "(J)I"⟩, 5), (⟨"CoinSorter$Tuning", "begin", "()V"⟩, 2), (⟨"CoinSorter$Tuning", "add", "(II)V"⟩, 2), (⟨"CoinSorter$Tuning", "best", "()I"⟩, 2), (⟨"CoinSorter$Tuning", "riseAt", "(I)I"⟩, 2), (⟨"CoinSorter$History", "push", "(LCoinSorter$State;)V"⟩, 3)]
theorem lw_r3 : ∀ q ∈ lw_privs_3, lw_okq q := List.forall_mem_cons.mpr ⟨lw_p32, List.forall_mem_cons.mpr ⟨lw_p33, List.forall_mem_cons.mpr ⟨lw_p34, List.forall_mem_cons.mpr ⟨lw_p35, List.forall_mem_cons.mpr ⟨lw_p36, List.forall_mem_cons.mpr ⟨lw_p37, List.forall_mem_cons.mpr ⟨lw_p38, List.forall_mem_cons.mpr ⟨lw_p39, List.forall_mem_cons.mpr ⟨lw_p40, List.forall_mem_cons.mpr ⟨lw_p41, List.forall_mem_cons.mpr ⟨lw_p42, List.forall_mem_cons.mpr ⟨lw_p43, List.forall_mem_cons.mpr ⟨lw_p44, List.forall_mem_cons.mpr ⟨lw_p45, List.forall_mem_cons.mpr ⟨lw_p46, List.forall_mem_cons.mpr ⟨lw_p47, fun _ h => absurd h List.not_mem_nil⟩⟩⟩⟩⟩⟩⟩⟩⟩⟩⟩⟩⟩⟩⟩⟩
theorem lw_p48 : lw_okq (⟨"CoinSorter$State", "copyFrom", "(LCoinSorter$State;)V"⟩, 15) := ⟨⟨by decide +kernel, by decide +kernel⟩, List.mem_of_getElem? (i := 176) (by decide +kernel), List.mem_of_getElem? (i := 1103) (by decide +kernel), List.mem_of_getElem? (i := 1104) (by decide +kernel)⟩
theorem lw_p49 : lw_okq (⟨"CoinSorter$Row", "copyFrom", "(LCoinSorter$Row;)V"⟩, 2) := ⟨⟨by decide +kernel, by decide +kernel⟩, List.mem_of_getElem? (i := 88) (by decide +kernel), List.mem_of_getElem? (i := 1107) (by decide +kernel), List.mem_of_getElem? (i := 1108) (by decide +kernel)⟩
theorem lw_p50 : lw_okq (⟨"CoinSorter", "move", "(I)V"⟩, 12) := ⟨⟨by decide +kernel, by decide +kernel⟩, List.mem_of_getElem? (i := 32) (by decide +kernel), List.mem_of_getElem? (i := 1129) (by decide +kernel), List.mem_of_getElem? (i := 1130) (by decide +kernel)⟩
theorem lw_p51 : lw_okq (⟨"CoinSorter$Row", "removeAt", "(I)I"⟩, 2) := ⟨⟨by decide +kernel, by decide +kernel⟩, List.mem_of_getElem? (i := 88) (by decide +kernel), List.mem_of_getElem? (i := 1133) (by decide +kernel), List.mem_of_getElem? (i := 1134) (by decide +kernel)⟩
theorem lw_p52 : lw_okq (⟨"CoinSorter$Row", "increase", "(II)V"⟩, 2) := ⟨⟨by decide +kernel, by decide +kernel⟩, List.mem_of_getElem? (i := 88) (by decide +kernel), List.mem_of_getElem? (i := 1138) (by decide +kernel), List.mem_of_getElem? (i := 1139) (by decide +kernel)⟩
theorem lw_p53 : lw_okq (⟨"CoinSorter$State", "addRecord", "(I)V"⟩, 15) := ⟨⟨by decide +kernel, by decide +kernel⟩, List.mem_of_getElem? (i := 176) (by decide +kernel), List.mem_of_getElem? (i := 1142) (by decide +kernel), List.mem_of_getElem? (i := 1143) (by decide +kernel)⟩
theorem lw_p54 : lw_okq (⟨"CoinSorter$History", "pop", "(LCoinSorter$State;)Z"⟩, 3) := ⟨⟨by decide +kernel, by decide +kernel⟩, List.mem_of_getElem? (i := 587) (by decide +kernel), List.mem_of_getElem? (i := 1174) (by decide +kernel), List.mem_of_getElem? (i := 1175) (by decide +kernel)⟩
theorem lw_p55 : lw_okq (⟨"CoinSorter$Row", "put", "(II)V"⟩, 2) := ⟨⟨by decide +kernel, by decide +kernel⟩, List.mem_of_getElem? (i := 88) (by decide +kernel), List.mem_of_getElem? (i := 1247) (by decide +kernel), List.mem_of_getElem? (i := 1248) (by decide +kernel)⟩
theorem lw_p56 : lw_okq (⟨"CoinSorterModel", "clearState", "()V"⟩, 29) := ⟨⟨by decide +kernel, by decide +kernel⟩, List.mem_of_getElem? (i := 1251) (by decide +kernel), List.mem_of_getElem? (i := 1258) (by decide +kernel), List.mem_of_getElem? (i := 1259) (by decide +kernel)⟩
theorem lw_p57 : lw_okq (⟨"CoinSorterModel", "appendInt", "(I)V"⟩, 29) := ⟨⟨by decide +kernel, by decide +kernel⟩, List.mem_of_getElem? (i := 1251) (by decide +kernel), List.mem_of_getElem? (i := 1358) (by decide +kernel), List.mem_of_getElem? (i := 1359) (by decide +kernel)⟩
theorem lw_p58 : lw_okq (⟨"CoinSorterModel", "nextToken", "()V"⟩, 29) := ⟨⟨by decide +kernel, by decide +kernel⟩, List.mem_of_getElem? (i := 1251) (by decide +kernel), List.mem_of_getElem? (i := 1369) (by decide +kernel), List.mem_of_getElem? (i := 1370) (by decide +kernel)⟩
theorem lw_p59 : lw_okq (⟨"CoinSorterModel", "byteAt", "(I)I"⟩, 29) := ⟨⟨by decide +kernel, by decide +kernel⟩, List.mem_of_getElem? (i := 1251) (by decide +kernel), List.mem_of_getElem? (i := 1373) (by decide +kernel), List.mem_of_getElem? (i := 1374) (by decide +kernel)⟩
theorem lw_p60 : lw_okq (⟨"CoinSorterModel", "statement", "()V"⟩, 29) := ⟨⟨by decide +kernel, by decide +kernel⟩, List.mem_of_getElem? (i := 1251) (by decide +kernel), List.mem_of_getElem? (i := 1381) (by decide +kernel), List.mem_of_getElem? (i := 1382) (by decide +kernel)⟩
theorem lw_p61 : lw_okq (⟨"CoinSorterModel", "is", "(Ljava/lang/String;)Z"⟩, 29) := ⟨⟨by decide +kernel, by decide +kernel⟩, List.mem_of_getElem? (i := 1251) (by decide +kernel), List.mem_of_getElem? (i := 1386) (by decide +kernel), List.mem_of_getElem? (i := 1387) (by decide +kernel)⟩
theorem lw_p62 : lw_okq (⟨"CoinSorterModel", "must", "(ZI)Z"⟩, 29) := ⟨⟨by decide +kernel, by decide +kernel⟩, List.mem_of_getElem? (i := 1251) (by decide +kernel), List.mem_of_getElem? (i := 1392) (by decide +kernel), List.mem_of_getElem? (i := 1393) (by decide +kernel)⟩
theorem lw_p63 : lw_okq (⟨"CoinSorterModel", "readKind", "(IZ)V"⟩, 29) := ⟨⟨by decide +kernel, by decide +kernel⟩, List.mem_of_getElem? (i := 1251) (by decide +kernel), List.mem_of_getElem? (i := 1396) (by decide +kernel), List.mem_of_getElem? (i := 1397) (by decide +kernel)⟩
def lw_privs_4 : List (MethodName × Nat) := [(⟨"CoinSorter$State", "copyFrom", "(LCoinSorter$State;)V"⟩, 15), (⟨"CoinSorter$Row", "copyFrom", "(LCoinSorter$Row;)V"⟩, 2), (⟨"CoinSorter", "move", "(I)V"⟩, 12), (⟨"CoinSorter$Row", "removeAt", "(I)I"⟩, 2), (⟨"CoinSorter$Row", "increase", "(II)V"⟩, 2), (⟨"CoinSorter$State", "addRecord", "(I)V"⟩, 15), (⟨"CoinSorter$History", "pop", "(LCoinSorter$State;)Z"⟩, 3), (⟨"CoinSorter$Row", "put", "(II)V"⟩, 2), (⟨"CoinSorterModel", "clearState", "()V"⟩, 29), (⟨"CoinSorterModel", "appendInt", "(I)V"⟩, 29), (⟨"CoinSorterModel", "nextToken", "()V"⟩, 29), (⟨"CoinSorterModel", "byteAt", "(I)I"⟩, 29), (⟨"CoinSorterModel", "statement", "()V"⟩, 29), (⟨"CoinSorterModel", "is", "(Ljava/lang/String;)Z"⟩, 29), (⟨"CoinSorterModel", "must", "(ZI)Z"⟩, 29), (⟨"CoinSorterModel", "readKind", "(IZ)V"⟩, 29)]
theorem lw_r4 : ∀ q ∈ lw_privs_4, lw_okq q := List.forall_mem_cons.mpr ⟨lw_p48, List.forall_mem_cons.mpr ⟨lw_p49, List.forall_mem_cons.mpr ⟨lw_p50, List.forall_mem_cons.mpr ⟨lw_p51, List.forall_mem_cons.mpr ⟨lw_p52, List.forall_mem_cons.mpr ⟨lw_p53, List.forall_mem_cons.mpr ⟨lw_p54, List.forall_mem_cons.mpr ⟨lw_p55, List.forall_mem_cons.mpr ⟨lw_p56, List.forall_mem_cons.mpr ⟨lw_p57, List.forall_mem_cons.mpr ⟨lw_p58, List.forall_mem_cons.mpr ⟨lw_p59, List.forall_mem_cons.mpr ⟨lw_p60, List.forall_mem_cons.mpr ⟨lw_p61, List.forall_mem_cons.mpr ⟨lw_p62, List.forall_mem_cons.mpr ⟨lw_p63, fun _ h => absurd h List.not_mem_nil⟩⟩⟩⟩⟩⟩⟩⟩⟩⟩⟩⟩⟩⟩⟩⟩
theorem lw_p64 : lw_okq (⟨"CoinSorterModel", "number", "(II)I"⟩, 29) := ⟨⟨by decide +kernel, by decide +kernel⟩, List.mem_of_getElem? (i := 1251) (by decide +kernel), List.mem_of_getElem? (i := 1400) (by decide +kernel), List.mem_of_getElem? (i := 1401) (by decide +kernel)⟩
theorem lw_p65 : lw_okq (⟨"CoinSorterModel", "once", "(III)I"⟩, 29) := ⟨⟨by decide +kernel, by decide +kernel⟩, List.mem_of_getElem? (i := 1251) (by decide +kernel), List.mem_of_getElem? (i := 1407) (by decide +kernel), List.mem_of_getElem? (i := 1408) (by decide +kernel)⟩
theorem lw_p66 : lw_okq (⟨"CoinSorterModel", "told", "(I)I"⟩, 29) := ⟨⟨by decide +kernel, by decide +kernel⟩, List.mem_of_getElem? (i := 1251) (by decide +kernel), List.mem_of_getElem? (i := 1420) (by decide +kernel), List.mem_of_getElem? (i := 1421) (by decide +kernel)⟩
theorem lw_p67 : lw_okq (⟨"CoinSorterModel", "isType", "(I)Z"⟩, 29) := ⟨⟨by decide +kernel, by decide +kernel⟩, List.mem_of_getElem? (i := 1251) (by decide +kernel), List.mem_of_getElem? (i := 1436) (by decide +kernel), List.mem_of_getElem? (i := 1437) (by decide +kernel)⟩
theorem lw_p68 : lw_okq (⟨"CoinSorterModel", "isBin", "(I)Z"⟩, 29) := ⟨⟨by decide +kernel, by decide +kernel⟩, List.mem_of_getElem? (i := 1251) (by decide +kernel), List.mem_of_getElem? (i := 1444) (by decide +kernel), List.mem_of_getElem? (i := 1445) (by decide +kernel)⟩
theorem lw_p69 : lw_okq (⟨"CoinSorterModel", "fail", "(I)I"⟩, 29) := ⟨⟨by decide +kernel, by decide +kernel⟩, List.mem_of_getElem? (i := 1251) (by decide +kernel), List.mem_of_getElem? (i := 1456) (by decide +kernel), List.mem_of_getElem? (i := 1457) (by decide +kernel)⟩
theorem lw_p70 : lw_okq (⟨"CoinSorterModel", "scoreFor", "(III)I"⟩, 29) := ⟨⟨by decide +kernel, by decide +kernel⟩, List.mem_of_getElem? (i := 1251) (by decide +kernel), List.mem_of_getElem? (i := 1465) (by decide +kernel), List.mem_of_getElem? (i := 1466) (by decide +kernel)⟩
theorem lw_p71 : lw_okq (⟨"CoinSorterModel", "verdict", "(III)I"⟩, 29) := ⟨⟨by decide +kernel, by decide +kernel⟩, List.mem_of_getElem? (i := 1251) (by decide +kernel), List.mem_of_getElem? (i := 1477) (by decide +kernel), List.mem_of_getElem? (i := 1478) (by decide +kernel)⟩
theorem lw_p72 : lw_okq (⟨"CoinSorterModel", "look", "(II)V"⟩, 29) := ⟨⟨by decide +kernel, by decide +kernel⟩, List.mem_of_getElem? (i := 1251) (by decide +kernel), List.mem_of_getElem? (i := 1481) (by decide +kernel), List.mem_of_getElem? (i := 1482) (by decide +kernel)⟩
theorem lw_p73 : lw_okq (⟨"CoinSorterModel", "nextOutcome", "()I"⟩, 29) := ⟨⟨by decide +kernel, by decide +kernel⟩, List.mem_of_getElem? (i := 1251) (by decide +kernel), List.mem_of_getElem? (i := 1518) (by decide +kernel), List.mem_of_getElem? (i := 1519) (by decide +kernel)⟩
theorem lw_p74 : lw_okq (⟨"CoinSorterModel", "movable", "()I"⟩, 29) := ⟨⟨by decide +kernel, by decide +kernel⟩, List.mem_of_getElem? (i := 1251) (by decide +kernel), List.mem_of_getElem? (i := 1522) (by decide +kernel), List.mem_of_getElem? (i := 1523) (by decide +kernel)⟩
theorem lw_p75 : lw_okq (⟨"CoinSorterModel", "roomFor", "(I)I"⟩, 29) := ⟨⟨by decide +kernel, by decide +kernel⟩, List.mem_of_getElem? (i := 1251) (by decide +kernel), List.mem_of_getElem? (i := 1526) (by decide +kernel), List.mem_of_getElem? (i := 1527) (by decide +kernel)⟩
theorem lw_p76 : lw_okq (⟨"CoinSorterModel", "missing", "(I)I"⟩, 29) := ⟨⟨by decide +kernel, by decide +kernel⟩, List.mem_of_getElem? (i := 1251) (by decide +kernel), List.mem_of_getElem? (i := 1530) (by decide +kernel), List.mem_of_getElem? (i := 1531) (by decide +kernel)⟩
theorem lw_p77 : lw_okq (⟨"CoinSorterModel", "hasBin", "(I)Z"⟩, 29) := ⟨⟨by decide +kernel, by decide +kernel⟩, List.mem_of_getElem? (i := 1251) (by decide +kernel), List.mem_of_getElem? (i := 1534) (by decide +kernel), List.mem_of_getElem? (i := 1535) (by decide +kernel)⟩
theorem lw_p78 : lw_okq (⟨"CoinSorterModel", "isBag", "(I)Z"⟩, 29) := ⟨⟨by decide +kernel, by decide +kernel⟩, List.mem_of_getElem? (i := 1251) (by decide +kernel), List.mem_of_getElem? (i := 1575) (by decide +kernel), List.mem_of_getElem? (i := 1576) (by decide +kernel)⟩
theorem lw_p79 : lw_okq (⟨"CoinSorterModel", "partOf", "(I)I"⟩, 29) := ⟨⟨by decide +kernel, by decide +kernel⟩, List.mem_of_getElem? (i := 1251) (by decide +kernel), List.mem_of_getElem? (i := 1587) (by decide +kernel), List.mem_of_getElem? (i := 1588) (by decide +kernel)⟩
def lw_privs_5 : List (MethodName × Nat) := [(⟨"CoinSorterModel", "number", "(II)I"⟩, 29), (⟨"CoinSorterModel", "once", "(III)I"⟩, 29), (⟨"CoinSorterModel", "told", "(I)I"⟩, 29), (⟨"CoinSorterModel", "isType", "(I)Z"⟩, 29), (⟨"CoinSorterModel", "isBin", "(I)Z"⟩, 29), (⟨"CoinSorterModel", "fail", "(I)I"⟩, 29), (⟨"CoinSorterModel", "scoreFor", "(III)I"⟩, 29), (⟨"CoinSorterModel", "verdict", "(III)I"⟩, 29), (⟨"CoinSorterModel", "look", "(II)V"⟩, 29), (⟨"CoinSorterModel", "nextOutcome", "()I"⟩, 29), (⟨"CoinSorterModel", "movable", "()I"⟩, 29), (⟨"CoinSorterModel", "roomFor", "(I)I"⟩, 29), (⟨"CoinSorterModel", "missing", "(I)I"⟩, 29), (⟨"CoinSorterModel", "hasBin", "(I)Z"⟩, 29), (⟨"CoinSorterModel", "isBag", "(I)Z"⟩, 29), (⟨"CoinSorterModel", "partOf", "(I)I"⟩, 29)]
theorem lw_r5 : ∀ q ∈ lw_privs_5, lw_okq q := List.forall_mem_cons.mpr ⟨lw_p64, List.forall_mem_cons.mpr ⟨lw_p65, List.forall_mem_cons.mpr ⟨lw_p66, List.forall_mem_cons.mpr ⟨lw_p67, List.forall_mem_cons.mpr ⟨lw_p68, List.forall_mem_cons.mpr ⟨lw_p69, List.forall_mem_cons.mpr ⟨lw_p70, List.forall_mem_cons.mpr ⟨lw_p71, List.forall_mem_cons.mpr ⟨lw_p72, List.forall_mem_cons.mpr ⟨lw_p73, List.forall_mem_cons.mpr ⟨lw_p74, List.forall_mem_cons.mpr ⟨lw_p75, List.forall_mem_cons.mpr ⟨lw_p76, List.forall_mem_cons.mpr ⟨lw_p77, List.forall_mem_cons.mpr ⟨lw_p78, List.forall_mem_cons.mpr ⟨lw_p79, fun _ h => absurd h List.not_mem_nil⟩⟩⟩⟩⟩⟩⟩⟩⟩⟩⟩⟩⟩⟩⟩⟩
theorem lw_p80 : lw_okq (⟨"CoinSorterModel", "pays", "(I)Z"⟩, 29) := ⟨⟨by decide +kernel, by decide +kernel⟩, List.mem_of_getElem? (i := 1251) (by decide +kernel), List.mem_of_getElem? (i := 1603) (by decide +kernel), List.mem_of_getElem? (i := 1604) (by decide +kernel)⟩
theorem lw_p81 : lw_okq (⟨"CoinSorterModel", "layPayouts", "(I)V"⟩, 29) := ⟨⟨by decide +kernel, by decide +kernel⟩, List.mem_of_getElem? (i := 1251) (by decide +kernel), List.mem_of_getElem? (i := 1607) (by decide +kernel), List.mem_of_getElem? (i := 1608) (by decide +kernel)⟩
theorem lw_p82 : lw_okq (⟨"CoinSorterModel", "coinValue", "(I)I"⟩, 29) := ⟨⟨by decide +kernel, by decide +kernel⟩, List.mem_of_getElem? (i := 1251) (by decide +kernel), List.mem_of_getElem? (i := 1611) (by decide +kernel), List.mem_of_getElem? (i := 1612) (by decide +kernel)⟩
theorem lw_p83 : lw_okq (⟨"CoinSorterModel", "fewestAt", "(II)I"⟩, 29) := ⟨⟨by decide +kernel, by decide +kernel⟩, List.mem_of_getElem? (i := 1251) (by decide +kernel), List.mem_of_getElem? (i := 1615) (by decide +kernel), List.mem_of_getElem? (i := 1616) (by decide +kernel)⟩
theorem lw_p84 : lw_okq (⟨"CoinSorterModel", "costWith", "(I)I"⟩, 29) := ⟨⟨by decide +kernel, by decide +kernel⟩, List.mem_of_getElem? (i := 1251) (by decide +kernel), List.mem_of_getElem? (i := 1632) (by decide +kernel), List.mem_of_getElem? (i := 1633) (by decide +kernel)⟩
theorem lw_p85 : lw_okq (⟨"CoinSorterModel", "sampleVerdict", "(II)I"⟩, 29) := ⟨⟨by decide +kernel, by decide +kernel⟩, List.mem_of_getElem? (i := 1251) (by decide +kernel), List.mem_of_getElem? (i := 1636) (by decide +kernel), List.mem_of_getElem? (i := 1637) (by decide +kernel)⟩
theorem lw_p86 : lw_okq (⟨"CoinSorterModel", "keep", "()V"⟩, 29) := ⟨⟨by decide +kernel, by decide +kernel⟩, List.mem_of_getElem? (i := 1251) (by decide +kernel), List.mem_of_getElem? (i := 1651) (by decide +kernel), List.mem_of_getElem? (i := 1652) (by decide +kernel)⟩
theorem lw_p87 : lw_okq (⟨"CoinSorterModel", "isStep", "(I)Z"⟩, 29) := ⟨⟨by decide +kernel, by decide +kernel⟩, List.mem_of_getElem? (i := 1251) (by decide +kernel), List.mem_of_getElem? (i := 1667) (by decide +kernel), List.mem_of_getElem? (i := 1668) (by decide +kernel)⟩
theorem lw_p88 : lw_okq (⟨"CoinSorterModel", "doStep", "(I)V"⟩, 29) := ⟨⟨by decide +kernel, by decide +kernel⟩, List.mem_of_getElem? (i := 1251) (by decide +kernel), List.mem_of_getElem? (i := 1671) (by decide +kernel), List.mem_of_getElem? (i := 1672) (by decide +kernel)⟩
theorem lw_p89 : lw_okq (⟨"CoinSorterModel", "takeFromLoop", "(I)V"⟩, 29) := ⟨⟨by decide +kernel, by decide +kernel⟩, List.mem_of_getElem? (i := 1251) (by decide +kernel), List.mem_of_getElem? (i := 1675) (by decide +kernel), List.mem_of_getElem? (i := 1676) (by decide +kernel)⟩
theorem lw_p90 : lw_okq (⟨"CoinSorterModel", "note", "(I)V"⟩, 29) := ⟨⟨by decide +kernel, by decide +kernel⟩, List.mem_of_getElem? (i := 1251) (by decide +kernel), List.mem_of_getElem? (i := 1679) (by decide +kernel), List.mem_of_getElem? (i := 1680) (by decide +kernel)⟩
theorem lw_p91 : lw_okq (⟨"CoinSorterModel", "takeFromHopper", "()V"⟩, 29) := ⟨⟨by decide +kernel, by decide +kernel⟩, List.mem_of_getElem? (i := 1251) (by decide +kernel), List.mem_of_getElem? (i := 1683) (by decide +kernel), List.mem_of_getElem? (i := 1684) (by decide +kernel)⟩
def lw_privs_6 : List (MethodName × Nat) := [(⟨"CoinSorterModel", "pays", "(I)Z"⟩, 29), (⟨"CoinSorterModel", "layPayouts", "(I)V"⟩, 29), (⟨"CoinSorterModel", "coinValue", "(I)I"⟩, 29), (⟨"CoinSorterModel", "fewestAt", "(II)I"⟩, 29), (⟨"CoinSorterModel", "costWith", "(I)I"⟩, 29), (⟨"CoinSorterModel", "sampleVerdict", "(II)I"⟩, 29), (⟨"CoinSorterModel", "keep", "()V"⟩, 29), (⟨"CoinSorterModel", "isStep", "(I)Z"⟩, 29), (⟨"CoinSorterModel", "doStep", "(I)V"⟩, 29), (⟨"CoinSorterModel", "takeFromLoop", "(I)V"⟩, 29), (⟨"CoinSorterModel", "note", "(I)V"⟩, 29), (⟨"CoinSorterModel", "takeFromHopper", "()V"⟩, 29)]
theorem lw_r6 : ∀ q ∈ lw_privs_6, lw_okq q := List.forall_mem_cons.mpr ⟨lw_p80, List.forall_mem_cons.mpr ⟨lw_p81, List.forall_mem_cons.mpr ⟨lw_p82, List.forall_mem_cons.mpr ⟨lw_p83, List.forall_mem_cons.mpr ⟨lw_p84, List.forall_mem_cons.mpr ⟨lw_p85, List.forall_mem_cons.mpr ⟨lw_p86, List.forall_mem_cons.mpr ⟨lw_p87, List.forall_mem_cons.mpr ⟨lw_p88, List.forall_mem_cons.mpr ⟨lw_p89, List.forall_mem_cons.mpr ⟨lw_p90, List.forall_mem_cons.mpr ⟨lw_p91, fun _ h => absurd h List.not_mem_nil⟩⟩⟩⟩⟩⟩⟩⟩⟩⟩⟩⟩
def lw_privs : List (MethodName × Nat) := lw_privs_1 ++ (lw_privs_2 ++ (lw_privs_3 ++ (lw_privs_4 ++ (lw_privs_5 ++ (lw_privs_6)))))
def lw_tbl : List Cond := k2_sels lw_privs ++ tables_1
theorem lw_privs_ok : ∀ q ∈ lw_privs, lw_okq q := by
  show ∀ q ∈ lw_privs_1 ++ (lw_privs_2 ++ (lw_privs_3 ++ (lw_privs_4 ++ (lw_privs_5 ++ (lw_privs_6))))), lw_okq q
  exact List.forall_mem_append.mpr ⟨lw_r1, List.forall_mem_append.mpr ⟨lw_r2, List.forall_mem_append.mpr ⟨lw_r3, List.forall_mem_append.mpr ⟨lw_r4, List.forall_mem_append.mpr ⟨lw_r5, lw_r6⟩⟩⟩⟩⟩
-- ===== end of PART A; then your names; then what follows =====
end
section
def RX0 : String := "CoinSorter$Config"
def TX0 : u_T := fun k => match k with
  | 0 => ("CoinSorter$Config", "types", "LCoinSorter$Kinds;", true)
  | 1 => ("CoinSorter$Config", "fakes", "LCoinSorter$Kinds;", true)
  | 2 => ("CoinSorter$Config", "binTypes", "LCoinSorter$Row;", true)
  | 3 => ("CoinSorter$Config", "binSizes", "LCoinSorter$Row;", true)
  | 4 => ("CoinSorter$Config", "gate", "I", false)
  | 5 => ("CoinSorter$Config", "loopCapacity", "I", false)
  | _ => ("CoinSorter$Config", "margin", "I", false)
def tyX0 : Nat → FieldType := fun k => match k with
  | 0 => .object "CoinSorter$Kinds"
  | 1 => .object "CoinSorter$Kinds"
  | 2 => .object "CoinSorter$Row"
  | 3 => .object "CoinSorter$Row"
  | 4 => .int
  | 5 => .int
  | _ => .int
theorem nmX0 : ∀ a, a < 7 → ∀ b, b < 7 → a ≠ b → (TX0 a).2.1 ≠ (TX0 b).2.1 := by decide +kernel
theorem tyX0_ok : ∀ k, k < 7 → parseFieldDescriptor (TX0 k).2.2.1 = some (tyX0 k) := by decide +kernel
abbrev cX0_init : ByteArray := prog_2_method_1_code
def yX0_init : MethodName := ⟨RX0, "<init>", "()V"⟩
abbrev cX0_reset : ByteArray := prog_2_method_2_code
def yX0_reset : MethodName := ⟨RX0, "reset", "()V"⟩
def RX1 : String := "CoinSorter$History"
def TX1 : u_T := fun k => match k with
  | 0 => ("CoinSorter$History", "states", "[LCoinSorter$State;", true)
  | 1 => ("CoinSorter$History", "oldest", "I", false)
  | _ => ("CoinSorter$History", "count", "I", false)
def tyX1 : Nat → FieldType := fun k => match k with
  | 0 => .array (.object "CoinSorter$State")
  | 1 => .int
  | _ => .int
theorem nmX1 : ∀ a, a < 3 → ∀ b, b < 3 → a ≠ b → (TX1 a).2.1 ≠ (TX1 b).2.1 := by decide +kernel
theorem tyX1_ok : ∀ k, k < 3 → parseFieldDescriptor (TX1 k).2.2.1 = some (tyX1 k) := by decide +kernel
abbrev cX1_init : ByteArray := prog_3_method_1_code
def yX1_init : MethodName := ⟨RX1, "<init>", "()V"⟩
abbrev cX1_push : ByteArray := prog_3_method_2_code
def yX1_push : MethodName := ⟨RX1, "push", "(LCoinSorter$State;)V"⟩
abbrev cX1_pop : ByteArray := prog_3_method_3_code
def yX1_pop : MethodName := ⟨RX1, "pop", "(LCoinSorter$State;)Z"⟩
abbrev cX1_forget : ByteArray := prog_3_method_4_code
def yX1_forget : MethodName := ⟨RX1, "forget", "()V"⟩
def RX2 : String := "CoinSorter$Judge"
def TX2 : u_T := fun k => match k with
  | 0 => ("CoinSorter$Judge", "sure", "I", false)
  | _ => ("CoinSorter$Judge", "gap", "I", false)
def tyX2 : Nat → FieldType := fun k => match k with
  | 0 => .int
  | _ => .int
theorem nmX2 : ∀ a, a < 2 → ∀ b, b < 2 → a ≠ b → (TX2 a).2.1 ≠ (TX2 b).2.1 := by decide +kernel
theorem tyX2_ok : ∀ k, k < 2 → parseFieldDescriptor (TX2 k).2.2.1 = some (tyX2 k) := by decide +kernel
abbrev cX2_init : ByteArray := prog_4_method_1_code
def yX2_init : MethodName := ⟨RX2, "<init>", "()V"⟩
abbrev cX2_examine : ByteArray := prog_4_method_2_code
def yX2_examine : MethodName := ⟨RX2, "examine", "(LCoinSorter$Config;II)V"⟩
abbrev cX2_verdictAt : ByteArray := prog_4_method_3_code
def yX2_verdictAt : MethodName := ⟨RX2, "verdictAt", "(I)I"⟩
def RX3 : String := "CoinSorter$Kinds"
def TX3 : u_T := fun k => match k with
  | 0 => ("CoinSorter$Kinds", "values", "LCoinSorter$Row;", true)
  | 1 => ("CoinSorter$Kinds", "diameters", "LCoinSorter$Row;", true)
  | 2 => ("CoinSorter$Kinds", "diameterTolerances", "LCoinSorter$Row;", true)
  | 3 => ("CoinSorter$Kinds", "alloys", "LCoinSorter$Row;", true)
  | _ => ("CoinSorter$Kinds", "alloyTolerances", "LCoinSorter$Row;", true)
def tyX3 : Nat → FieldType := fun k => match k with
  | 0 => .object "CoinSorter$Row"
  | 1 => .object "CoinSorter$Row"
  | 2 => .object "CoinSorter$Row"
  | 3 => .object "CoinSorter$Row"
  | _ => .object "CoinSorter$Row"
theorem nmX3 : ∀ a, a < 5 → ∀ b, b < 5 → a ≠ b → (TX3 a).2.1 ≠ (TX3 b).2.1 := by decide +kernel
theorem tyX3_ok : ∀ k, k < 5 → parseFieldDescriptor (TX3 k).2.2.1 = some (tyX3 k) := by decide +kernel
abbrev cX3_init : ByteArray := prog_5_method_1_code
def yX3_init : MethodName := ⟨RX3, "<init>", "(I)V"⟩
abbrev cX3_count : ByteArray := prog_5_method_2_code
def yX3_count : MethodName := ⟨RX3, "count", "()I"⟩
abbrev cX3_empty : ByteArray := prog_5_method_3_code
def yX3_empty : MethodName := ⟨RX3, "empty", "()V"⟩
abbrev cX3_scoreOf : ByteArray := prog_5_method_4_code
def yX3_scoreOf : MethodName := ⟨RX3, "scoreOf", "(III)I"⟩
abbrev cX3_deviation : ByteArray := prog_5_method_5_code
def yX3_deviation : MethodName := ⟨RX3, "deviation", "(III)I"⟩
def RX4 : String := "CoinSorter$Parser"
def TX4 : u_T := fun k => match k with
  | 0 => ("CoinSorter$Parser", "text", "[B", false)
  | 1 => ("CoinSorter$Parser", "length", "I", false)
  | 2 => ("CoinSorter$Parser", "token", "I", false)
  | 3 => ("CoinSorter$Parser", "start", "I", false)
  | 4 => ("CoinSorter$Parser", "end", "I", false)
  | 5 => ("CoinSorter$Parser", "error", "I", false)
  | 6 => ("CoinSorter$Parser", "gateIsRead", "Z", false)
  | 7 => ("CoinSorter$Parser", "loopIsRead", "Z", false)
  | _ => ("CoinSorter$Parser", "marginIsRead", "Z", false)
def tyX4 : Nat → FieldType := fun k => match k with
  | 0 => .array .byte
  | 1 => .int
  | 2 => .int
  | 3 => .int
  | 4 => .int
  | 5 => .int
  | 6 => .boolean
  | 7 => .boolean
  | _ => .boolean
theorem nmX4 : ∀ a, a < 9 → ∀ b, b < 9 → a ≠ b → (TX4 a).2.1 ≠ (TX4 b).2.1 := by decide +kernel
theorem tyX4_ok : ∀ k, k < 9 → parseFieldDescriptor (TX4 k).2.2.1 = some (tyX4 k) := by decide +kernel
abbrev cX4_init : ByteArray := prog_6_method_1_code
def yX4_init : MethodName := ⟨RX4, "<init>", "()V"⟩
abbrev cX4_begin : ByteArray := prog_6_method_2_code
def yX4_begin : MethodName := ⟨RX4, "begin", "([BI)V"⟩
abbrev cX4_hasStatement : ByteArray := prog_6_method_3_code
def yX4_hasStatement : MethodName := ⟨RX4, "hasStatement", "()Z"⟩
abbrev cX4_readStatement : ByteArray := prog_6_method_4_code
def yX4_readStatement : MethodName := ⟨RX4, "readStatement", "(LCoinSorter$Config;)V"⟩
abbrev cX4_readKind : ByteArray := prog_6_method_5_code
def yX4_readKind : MethodName := ⟨RX4, "readKind", "(LCoinSorter$Kinds;Z)V"⟩
abbrev cX4_readBin : ByteArray := prog_6_method_6_code
def yX4_readBin : MethodName := ⟨RX4, "readBin", "(LCoinSorter$Config;)V"⟩
abbrev cX4_readNumber : ByteArray := prog_6_method_7_code
def yX4_readNumber : MethodName := ⟨RX4, "readNumber", "(II)I"⟩
abbrev cX4_readSemicolon : ByteArray := prog_6_method_8_code
def yX4_readSemicolon : MethodName := ⟨RX4, "readSemicolon", "()V"⟩
abbrev cX4_failIf : ByteArray := prog_6_method_9_code
def yX4_failIf : MethodName := ⟨RX4, "failIf", "(ZI)V"⟩
abbrev cX4_readToken : ByteArray := prog_6_method_10_code
def yX4_readToken : MethodName := ⟨RX4, "readToken", "()V"⟩
abbrev cX4_endOfRun : ByteArray := prog_6_method_11_code
def yX4_endOfRun : MethodName := ⟨RX4, "endOfRun", "(II)I"⟩
abbrev cX4_byteAt : ByteArray := prog_6_method_12_code
def yX4_byteAt : MethodName := ⟨RX4, "byteAt", "(I)I"⟩
abbrev cX4_tokenOf : ByteArray := prog_6_method_13_code
def yX4_tokenOf : MethodName := ⟨RX4, "tokenOf", "(I)I"⟩
abbrev cX4_isWord : ByteArray := prog_6_method_14_code
def yX4_isWord : MethodName := ⟨RX4, "isWord", "(Ljava/lang/String;)Z"⟩
abbrev cX4_number : ByteArray := prog_6_method_15_code
def yX4_number : MethodName := ⟨RX4, "number", "()I"⟩
def RX5 : String := "CoinSorter$Payout"
def TX5 : u_T := fun k => match k with
  | 0 => ("CoinSorter$Payout", "stock", "[I", true)
  | 1 => ("CoinSorter$Payout", "places", "[J", true)
  | 2 => ("CoinSorter$Payout", "weights", "[J", true)
  | 3 => ("CoinSorter$Payout", "whole", "J", false)
  | _ => ("CoinSorter$Payout", "coins", "LCoinSorter$Row;", true)
def tyX5 : Nat → FieldType := fun k => match k with
  | 0 => .array .int
  | 1 => .array .long
  | 2 => .array .long
  | 3 => .long
  | _ => .object "CoinSorter$Row"
theorem nmX5 : ∀ a, a < 5 → ∀ b, b < 5 → a ≠ b → (TX5 a).2.1 ≠ (TX5 b).2.1 := by decide +kernel
theorem tyX5_ok : ∀ k, k < 5 → parseFieldDescriptor (TX5 k).2.2.1 = some (tyX5 k) := by decide +kernel
abbrev cX5_init : ByteArray := prog_7_method_1_code
def yX5_init : MethodName := ⟨RX5, "<init>", "()V"⟩
abbrev cX5_takeStock : ByteArray := prog_7_method_2_code
def yX5_takeStock : MethodName := ⟨RX5, "takeStock", "(LCoinSorter$Config;LCoinSorter$Row;)V"⟩
abbrev cX5_plan : ByteArray := prog_7_method_3_code
def yX5_plan : MethodName := ⟨RX5, "plan", "(LCoinSorter$Row;I)I"⟩
abbrev cX5_weighType : ByteArray := prog_7_method_4_code
def yX5_weighType : MethodName := ⟨RX5, "weighType", "(IIJI)V"⟩
abbrev cX5_weighPacket : ByteArray := prog_7_method_5_code
def yX5_weighPacket : MethodName := ⟨RX5, "weighPacket", "(IJI)V"⟩
abbrev cX5_readCoins : ByteArray := prog_7_method_6_code
def yX5_readCoins : MethodName := ⟨RX5, "readCoins", "(J)I"⟩
def RX6 : String := "CoinSorter$Row"
def TX6 : u_T := fun k => match k with
  | 0 => ("CoinSorter$Row", "items", "[I", true)
  | _ => ("CoinSorter$Row", "size", "I", false)
def tyX6 : Nat → FieldType := fun k => match k with
  | 0 => .array .int
  | _ => .int
theorem nmX6 : ∀ a, a < 2 → ∀ b, b < 2 → a ≠ b → (TX6 a).2.1 ≠ (TX6 b).2.1 := by decide +kernel
theorem tyX6_ok : ∀ k, k < 2 → parseFieldDescriptor (TX6 k).2.2.1 = some (tyX6 k) := by decide +kernel
abbrev cX6_init : ByteArray := prog_8_method_1_code
def yX6_init : MethodName := ⟨RX6, "<init>", "(I)V"⟩
abbrev cX6_isFull : ByteArray := prog_8_method_2_code
def yX6_isFull : MethodName := ⟨RX6, "isFull", "()Z"⟩
abbrev cX6_has : ByteArray := prog_8_method_3_code
def yX6_has : MethodName := ⟨RX6, "has", "(I)Z"⟩
abbrev cX6_at : ByteArray := prog_8_method_4_code
def yX6_at : MethodName := ⟨RX6, "at", "(I)I"⟩
abbrev cX6_put : ByteArray := prog_8_method_5_code
def yX6_put : MethodName := ⟨RX6, "put", "(II)V"⟩
abbrev cX6_increase : ByteArray := prog_8_method_6_code
def yX6_increase : MethodName := ⟨RX6, "increase", "(II)V"⟩
abbrev cX6_add : ByteArray := prog_8_method_7_code
def yX6_add : MethodName := ⟨RX6, "add", "(I)V"⟩
abbrev cX6_removeAt : ByteArray := prog_8_method_8_code
def yX6_removeAt : MethodName := ⟨RX6, "removeAt", "(I)I"⟩
abbrev cX6_empty : ByteArray := prog_8_method_9_code
def yX6_empty : MethodName := ⟨RX6, "empty", "()V"⟩
abbrev cX6_fillWithZeros : ByteArray := prog_8_method_10_code
def yX6_fillWithZeros : MethodName := ⟨RX6, "fillWithZeros", "(I)V"⟩
abbrev cX6_copyFrom : ByteArray := prog_8_method_11_code
def yX6_copyFrom : MethodName := ⟨RX6, "copyFrom", "(LCoinSorter$Row;)V"⟩
def RX7 : String := "CoinSorter$State"
def TX7 : u_T := fun k => match k with
  | 0 => ("CoinSorter$State", "diameterOffset", "I", false)
  | 1 => ("CoinSorter$State", "alloyOffset", "I", false)
  | 2 => ("CoinSorter$State", "margin", "I", false)
  | 3 => ("CoinSorter$State", "jammed", "Z", false)
  | 4 => ("CoinSorter$State", "stepCount", "I", false)
  | 5 => ("CoinSorter$State", "hopper", "LCoinSorter$Row;", true)
  | 6 => ("CoinSorter$State", "loop", "LCoinSorter$Row;", true)
  | 7 => ("CoinSorter$State", "binCoins", "LCoinSorter$Row;", true)
  | 8 => ("CoinSorter$State", "rejected", "LCoinSorter$Row;", true)
  | 9 => ("CoinSorter$State", "records", "LCoinSorter$Row;", true)
  | 10 => ("CoinSorter$State", "bagTypes", "LCoinSorter$Row;", true)
  | 11 => ("CoinSorter$State", "bagCoins", "LCoinSorter$Row;", true)
  | 12 => ("CoinSorter$State", "bagAudits", "LCoinSorter$Row;", true)
  | 13 => ("CoinSorter$State", "sampleCoins", "LCoinSorter$Row;", true)
  | _ => ("CoinSorter$State", "sampleLabels", "LCoinSorter$Row;", true)
def tyX7 : Nat → FieldType := fun k => match k with
  | 0 => .int
  | 1 => .int
  | 2 => .int
  | 3 => .boolean
  | 4 => .int
  | 5 => .object "CoinSorter$Row"
  | 6 => .object "CoinSorter$Row"
  | 7 => .object "CoinSorter$Row"
  | 8 => .object "CoinSorter$Row"
  | 9 => .object "CoinSorter$Row"
  | 10 => .object "CoinSorter$Row"
  | 11 => .object "CoinSorter$Row"
  | 12 => .object "CoinSorter$Row"
  | 13 => .object "CoinSorter$Row"
  | _ => .object "CoinSorter$Row"
theorem nmX7 : ∀ a, a < 15 → ∀ b, b < 15 → a ≠ b → (TX7 a).2.1 ≠ (TX7 b).2.1 := by decide +kernel
theorem tyX7_ok : ∀ k, k < 15 → parseFieldDescriptor (TX7 k).2.2.1 = some (tyX7 k) := by decide +kernel
abbrev cX7_init : ByteArray := prog_9_method_1_code
def yX7_init : MethodName := ⟨RX7, "<init>", "()V"⟩
abbrev cX7_reset : ByteArray := prog_9_method_2_code
def yX7_reset : MethodName := ⟨RX7, "reset", "(LCoinSorter$Config;)V"⟩
abbrev cX7_addRecord : ByteArray := prog_9_method_3_code
def yX7_addRecord : MethodName := ⟨RX7, "addRecord", "(I)V"⟩
abbrev cX7_copyFrom : ByteArray := prog_9_method_4_code
def yX7_copyFrom : MethodName := ⟨RX7, "copyFrom", "(LCoinSorter$State;)V"⟩
def RX8 : String := "CoinSorter$Tuning"
def TX8 : u_T := fun k => match k with
  | 0 => ("CoinSorter$Tuning", "gaps", "LCoinSorter$Row;", true)
  | _ => ("CoinSorter$Tuning", "rises", "LCoinSorter$Row;", true)
def tyX8 : Nat → FieldType := fun k => match k with
  | 0 => .object "CoinSorter$Row"
  | _ => .object "CoinSorter$Row"
theorem nmX8 : ∀ a, a < 2 → ∀ b, b < 2 → a ≠ b → (TX8 a).2.1 ≠ (TX8 b).2.1 := by decide +kernel
theorem tyX8_ok : ∀ k, k < 2 → parseFieldDescriptor (TX8 k).2.2.1 = some (tyX8 k) := by decide +kernel
abbrev cX8_init : ByteArray := prog_10_method_1_code
def yX8_init : MethodName := ⟨RX8, "<init>", "()V"⟩
abbrev cX8_begin : ByteArray := prog_10_method_2_code
def yX8_begin : MethodName := ⟨RX8, "begin", "()V"⟩
abbrev cX8_add : ByteArray := prog_10_method_3_code
def yX8_add : MethodName := ⟨RX8, "add", "(II)V"⟩
abbrev cX8_best : ByteArray := prog_10_method_4_code
def yX8_best : MethodName := ⟨RX8, "best", "()I"⟩
abbrev cX8_riseAt : ByteArray := prog_10_method_5_code
def yX8_riseAt : MethodName := ⟨RX8, "riseAt", "(I)I"⟩
def RX9 : String := "CoinSorter"
def TX9 : u_T := fun k => match k with
  | 0 => ("CoinSorter", "buffer", "[B", true)
  | 1 => ("CoinSorter", "bufferLength", "I", false)
  | 2 => ("CoinSorter", "parser", "LCoinSorter$Parser;", true)
  | 3 => ("CoinSorter", "config", "LCoinSorter$Config;", false)
  | 4 => ("CoinSorter", "spareConfig", "LCoinSorter$Config;", false)
  | 5 => ("CoinSorter", "state", "LCoinSorter$State;", true)
  | 6 => ("CoinSorter", "history", "LCoinSorter$History;", true)
  | 7 => ("CoinSorter", "slots", "[LCoinSorter$State;", true)
  | 8 => ("CoinSorter", "slotIsSaved", "[Z", true)
  | 9 => ("CoinSorter", "judge", "LCoinSorter$Judge;", true)
  | 10 => ("CoinSorter", "payout", "LCoinSorter$Payout;", true)
  | _ => ("CoinSorter", "tuning", "LCoinSorter$Tuning;", true)
def tyX9 : Nat → FieldType := fun k => match k with
  | 0 => .array .byte
  | 1 => .int
  | 2 => .object "CoinSorter$Parser"
  | 3 => .object "CoinSorter$Config"
  | 4 => .object "CoinSorter$Config"
  | 5 => .object "CoinSorter$State"
  | 6 => .object "CoinSorter$History"
  | 7 => .array (.object "CoinSorter$State")
  | 8 => .array .boolean
  | 9 => .object "CoinSorter$Judge"
  | 10 => .object "CoinSorter$Payout"
  | _ => .object "CoinSorter$Tuning"
theorem nmX9 : ∀ a, a < 12 → ∀ b, b < 12 → a ≠ b → (TX9 a).2.1 ≠ (TX9 b).2.1 := by decide +kernel
theorem tyX9_ok : ∀ k, k < 12 → parseFieldDescriptor (TX9 k).2.2.1 = some (tyX9 k) := by decide +kernel
abbrev cX9_init : ByteArray := prog_1_method_1_code
def yX9_init : MethodName := ⟨RX9, "<init>", "()V"⟩
abbrev cX9_append : ByteArray := prog_1_method_2_code
def yX9_append : MethodName := ⟨RX9, "append", "(IIIII)I"⟩
abbrev cX9_appendWord : ByteArray := prog_1_method_3_code
def yX9_appendWord : MethodName := ⟨RX9, "appendWord", "(I)V"⟩
abbrev cX9_parse : ByteArray := prog_1_method_4_code
def yX9_parse : MethodName := ⟨RX9, "parse", "(I)I"⟩
abbrev cX9_takeSpareConfig : ByteArray := prog_1_method_5_code
def yX9_takeSpareConfig : MethodName := ⟨RX9, "takeSpareConfig", "()V"⟩
abbrev cX9_typeCount : ByteArray := prog_1_method_6_code
def yX9_typeCount : MethodName := ⟨RX9, "typeCount", "()I"⟩
abbrev cX9_fakeCount : ByteArray := prog_1_method_7_code
def yX9_fakeCount : MethodName := ⟨RX9, "fakeCount", "()I"⟩
abbrev cX9_binCount : ByteArray := prog_1_method_8_code
def yX9_binCount : MethodName := ⟨RX9, "binCount", "()I"⟩
abbrev cX9_typeValue : ByteArray := prog_1_method_9_code
def yX9_typeValue : MethodName := ⟨RX9, "typeValue", "(I)I"⟩
abbrev cX9_binType : ByteArray := prog_1_method_10_code
def yX9_binType : MethodName := ⟨RX9, "binType", "(I)I"⟩
abbrev cX9_bagSize : ByteArray := prog_1_method_11_code
def yX9_bagSize : MethodName := ⟨RX9, "bagSize", "(I)I"⟩
abbrev cX9_score : ByteArray := prog_1_method_12_code
def yX9_score : MethodName := ⟨RX9, "score", "(III)I"⟩
abbrev cX9_classify : ByteArray := prog_1_method_13_code
def yX9_classify : MethodName := ⟨RX9, "classify", "(II)I"⟩
abbrev cX9_verdict : ByteArray := prog_1_method_14_code
def yX9_verdict : MethodName := ⟨RX9, "verdict", "(III)I"⟩
abbrev cX9_isType : ByteArray := prog_1_method_15_code
def yX9_isType : MethodName := ⟨RX9, "isType", "(I)Z"⟩
abbrev cX9_isMeasurement : ByteArray := prog_1_method_16_code
def yX9_isMeasurement : MethodName := ⟨RX9, "isMeasurement", "(II)Z"⟩
abbrev cX9_isMargin : ByteArray := prog_1_method_17_code
def yX9_isMargin : MethodName := ⟨RX9, "isMargin", "(I)Z"⟩
abbrev cX9_diameterOffset : ByteArray := prog_1_method_18_code
def yX9_diameterOffset : MethodName := ⟨RX9, "diameterOffset", "()I"⟩
abbrev cX9_alloyOffset : ByteArray := prog_1_method_19_code
def yX9_alloyOffset : MethodName := ⟨RX9, "alloyOffset", "()I"⟩
abbrev cX9_margin : ByteArray := prog_1_method_20_code
def yX9_margin : MethodName := ⟨RX9, "margin", "()I"⟩
abbrev cX9_hopperSize : ByteArray := prog_1_method_21_code
def yX9_hopperSize : MethodName := ⟨RX9, "hopperSize", "()I"⟩
abbrev cX9_loopSize : ByteArray := prog_1_method_22_code
def yX9_loopSize : MethodName := ⟨RX9, "loopSize", "()I"⟩
abbrev cX9_loopType : ByteArray := prog_1_method_23_code
def yX9_loopType : MethodName := ⟨RX9, "loopType", "(I)I"⟩
abbrev cX9_isJammed : ByteArray := prog_1_method_24_code
def yX9_isJammed : MethodName := ⟨RX9, "isJammed", "()Z"⟩
abbrev cX9_isStopped : ByteArray := prog_1_method_25_code
def yX9_isStopped : MethodName := ⟨RX9, "isStopped", "()Z"⟩
abbrev cX9_binCoins : ByteArray := prog_1_method_26_code
def yX9_binCoins : MethodName := ⟨RX9, "binCoins", "(I)I"⟩
abbrev cX9_binFor : ByteArray := prog_1_method_27_code
def yX9_binFor : MethodName := ⟨RX9, "binFor", "(I)I"⟩
abbrev cX9_rejected : ByteArray := prog_1_method_28_code
def yX9_rejected : MethodName := ⟨RX9, "rejected", "(I)I"⟩
abbrev cX9_rejectIndex : ByteArray := prog_1_method_29_code
def yX9_rejectIndex : MethodName := ⟨RX9, "rejectIndex", "(I)I"⟩
abbrev cX9_stepCount : ByteArray := prog_1_method_30_code
def yX9_stepCount : MethodName := ⟨RX9, "stepCount", "()I"⟩
abbrev cX9_record : ByteArray := prog_1_method_31_code
def yX9_record : MethodName := ⟨RX9, "record", "(I)I"⟩
abbrev cX9_binValue : ByteArray := prog_1_method_32_code
def yX9_binValue : MethodName := ⟨RX9, "binValue", "()I"⟩
abbrev cX9_bagCount : ByteArray := prog_1_method_33_code
def yX9_bagCount : MethodName := ⟨RX9, "bagCount", "()I"⟩
abbrev cX9_bagType : ByteArray := prog_1_method_34_code
def yX9_bagType : MethodName := ⟨RX9, "bagType", "(I)I"⟩
abbrev cX9_bagCoins : ByteArray := prog_1_method_35_code
def yX9_bagCoins : MethodName := ⟨RX9, "bagCoins", "(I)I"⟩
abbrev cX9_discrepancy : ByteArray := prog_1_method_36_code
def yX9_discrepancy : MethodName := ⟨RX9, "discrepancy", "()I"⟩
abbrev cX9_discrepancyOf : ByteArray := prog_1_method_37_code
def yX9_discrepancyOf : MethodName := ⟨RX9, "discrepancyOf", "(I)I"⟩
abbrev cX9_worstBag : ByteArray := prog_1_method_38_code
def yX9_worstBag : MethodName := ⟨RX9, "worstBag", "()I"⟩
abbrev cX9_payoutCoins : ByteArray := prog_1_method_39_code
def yX9_payoutCoins : MethodName := ⟨RX9, "payoutCoins", "(I)I"⟩
abbrev cX9_payoutOf : ByteArray := prog_1_method_40_code
def yX9_payoutOf : MethodName := ⟨RX9, "payoutOf", "(II)I"⟩
abbrev cX9_isAmount : ByteArray := prog_1_method_41_code
def yX9_isAmount : MethodName := ⟨RX9, "isAmount", "(I)Z"⟩
abbrev cX9_planPayout : ByteArray := prog_1_method_42_code
def yX9_planPayout : MethodName := ⟨RX9, "planPayout", "(I)I"⟩
abbrev cX9_sampleCount : ByteArray := prog_1_method_43_code
def yX9_sampleCount : MethodName := ⟨RX9, "sampleCount", "()I"⟩
abbrev cX9_sampleCost : ByteArray := prog_1_method_44_code
def yX9_sampleCost : MethodName := ⟨RX9, "sampleCost", "(I)I"⟩
abbrev cX9_cost : ByteArray := prog_1_method_45_code
def yX9_cost : MethodName := ⟨RX9, "cost", "(II)I"⟩
abbrev cX9_bestMargin : ByteArray := prog_1_method_46_code
def yX9_bestMargin : MethodName := ⟨RX9, "bestMargin", "()I"⟩
abbrev cX9_calibrate : ByteArray := prog_1_method_47_code
def yX9_calibrate : MethodName := ⟨RX9, "calibrate", "(III)Z"⟩
abbrev cX9_setMargin : ByteArray := prog_1_method_48_code
def yX9_setMargin : MethodName := ⟨RX9, "setMargin", "(I)I"⟩
abbrev cX9_insert : ByteArray := prog_1_method_49_code
def yX9_insert : MethodName := ⟨RX9, "insert", "(II)I"⟩
abbrev cX9_coinOf : ByteArray := prog_1_method_50_code
def yX9_coinOf : MethodName := ⟨RX9, "coinOf", "(II)I"⟩
abbrev cX9_diameterOf : ByteArray := prog_1_method_51_code
def yX9_diameterOf : MethodName := ⟨RX9, "diameterOf", "(I)I"⟩
abbrev cX9_alloyOf : ByteArray := prog_1_method_52_code
def yX9_alloyOf : MethodName := ⟨RX9, "alloyOf", "(I)I"⟩
abbrev cX9_step : ByteArray := prog_1_method_53_code
def yX9_step : MethodName := ⟨RX9, "step", "()I"⟩
abbrev cX9_run : ByteArray := prog_1_method_54_code
def yX9_run : MethodName := ⟨RX9, "run", "(I)I"⟩
abbrev cX9_nextOutcome : ByteArray := prog_1_method_55_code
def yX9_nextOutcome : MethodName := ⟨RX9, "nextOutcome", "()I"⟩
abbrev cX9_nextInLoop : ByteArray := prog_1_method_56_code
def yX9_nextInLoop : MethodName := ⟨RX9, "nextInLoop", "()I"⟩
abbrev cX9_outcomeOf : ByteArray := prog_1_method_57_code
def yX9_outcomeOf : MethodName := ⟨RX9, "outcomeOf", "(II)I"⟩
abbrev cX9_hasBin : ByteArray := prog_1_method_58_code
def yX9_hasBin : MethodName := ⟨RX9, "hasBin", "(I)Z"⟩
abbrev cX9_move : ByteArray := prog_1_method_59_code
def yX9_move : MethodName := ⟨RX9, "move", "(I)V"⟩
abbrev cX9_clearJam : ByteArray := prog_1_method_60_code
def yX9_clearJam : MethodName := ⟨RX9, "clearJam", "()Z"⟩
abbrev cX9_changeBag : ByteArray := prog_1_method_61_code
def yX9_changeBag : MethodName := ⟨RX9, "changeBag", "(I)I"⟩
abbrev cX9_audit : ByteArray := prog_1_method_62_code
def yX9_audit : MethodName := ⟨RX9, "audit", "(II)I"⟩
abbrev cX9_dispense : ByteArray := prog_1_method_63_code
def yX9_dispense : MethodName := ⟨RX9, "dispense", "(I)I"⟩
abbrev cX9_addSample : ByteArray := prog_1_method_64_code
def yX9_addSample : MethodName := ⟨RX9, "addSample", "(III)I"⟩
abbrev cX9_undo : ByteArray := prog_1_method_65_code
def yX9_undo : MethodName := ⟨RX9, "undo", "()I"⟩
abbrev cX9_saveSnapshot : ByteArray := prog_1_method_66_code
def yX9_saveSnapshot : MethodName := ⟨RX9, "saveSnapshot", "(I)Z"⟩
abbrev cX9_restoreSnapshot : ByteArray := prog_1_method_67_code
def yX9_restoreSnapshot : MethodName := ⟨RX9, "restoreSnapshot", "(I)Z"⟩
def RX10 : String := "CoinSorterModel"
def TX10 : u_T := fun k => match k with
  | 0 => ("CoinSorterModel", "thrown", "I", false)
  | 1 => ("CoinSorterModel", "buffer", "[B", true)
  | 2 => ("CoinSorterModel", "length", "I", false)
  | 3 => ("CoinSorterModel", "textLength", "I", false)
  | 4 => ("CoinSorterModel", "tokenStart", "I", false)
  | 5 => ("CoinSorterModel", "tokenEnd", "I", false)
  | 6 => ("CoinSorterModel", "token", "I", false)
  | 7 => ("CoinSorterModel", "value", "I", false)
  | 8 => ("CoinSorterModel", "error", "I", false)
  | 9 => ("CoinSorterModel", "errorOffset", "I", false)
  | 10 => ("CoinSorterModel", "basic", "[I", true)
  | 11 => ("CoinSorterModel", "draft", "[I", true)
  | 12 => ("CoinSorterModel", "kinds", "[I", true)
  | 13 => ("CoinSorterModel", "binType", "[I", true)
  | 14 => ("CoinSorterModel", "binSize", "[I", true)
  | 15 => ("CoinSorterModel", "given", "I", false)
  | 16 => ("CoinSorterModel", "state", "[I", true)
  | 17 => ("CoinSorterModel", "history", "[I", true)
  | 18 => ("CoinSorterModel", "depth", "I", false)
  | 19 => ("CoinSorterModel", "slots", "[I", true)
  | 20 => ("CoinSorterModel", "isSaved", "[Z", true)
  | 21 => ("CoinSorterModel", "bestType", "I", false)
  | 22 => ("CoinSorterModel", "lowest", "I", false)
  | 23 => ("CoinSorterModel", "second", "I", false)
  | 24 => ("CoinSorterModel", "lowestFake", "I", false)
  | 25 => ("CoinSorterModel", "fewest", "[I", true)
  | 26 => ("CoinSorterModel", "held", "[I", true)
  | 27 => ("CoinSorterModel", "paid", "[I", true)
  | _ => ("CoinSorterModel", "changes", "[I", true)
def tyX10 : Nat → FieldType := fun k => match k with
  | 0 => .int
  | 1 => .array .byte
  | 2 => .int
  | 3 => .int
  | 4 => .int
  | 5 => .int
  | 6 => .int
  | 7 => .int
  | 8 => .int
  | 9 => .int
  | 10 => .array .int
  | 11 => .array .int
  | 12 => .array .int
  | 13 => .array .int
  | 14 => .array .int
  | 15 => .int
  | 16 => .array .int
  | 17 => .array .int
  | 18 => .int
  | 19 => .array .int
  | 20 => .array .boolean
  | 21 => .int
  | 22 => .int
  | 23 => .int
  | 24 => .int
  | 25 => .array .int
  | 26 => .array .int
  | 27 => .array .int
  | _ => .array .int
theorem nmX10 : ∀ a, a < 29 → ∀ b, b < 29 → a ≠ b → (TX10 a).2.1 ≠ (TX10 b).2.1 := by decide +kernel
theorem tyX10_ok : ∀ k, k < 29 → parseFieldDescriptor (TX10 k).2.2.1 = some (tyX10 k) := by decide +kernel
abbrev cX10_init : ByteArray := prog_12_method_1_code
def yX10_init : MethodName := ⟨RX10, "<init>", "()V"⟩
abbrev cX10_thrown : ByteArray := prog_12_method_2_code
def yX10_thrown : MethodName := ⟨RX10, "thrown", "()I"⟩
abbrev cX10_within : ByteArray := prog_12_method_3_code
def yX10_within : MethodName := ⟨RX10, "within", "(JJJ)Z"⟩
abbrev cX10_fail : ByteArray := prog_12_method_4_code
def yX10_fail : MethodName := ⟨RX10, "fail", "(I)I"⟩
abbrev cX10_appendInt : ByteArray := prog_12_method_5_code
def yX10_appendInt : MethodName := ⟨RX10, "appendInt", "(I)V"⟩
abbrev cX10_append : ByteArray := prog_12_method_6_code
def yX10_append : MethodName := ⟨RX10, "append", "(IIIII)I"⟩
abbrev cX10_byteAt : ByteArray := prog_12_method_7_code
def yX10_byteAt : MethodName := ⟨RX10, "byteAt", "(I)I"⟩
abbrev cX10_nextToken : ByteArray := prog_12_method_8_code
def yX10_nextToken : MethodName := ⟨RX10, "nextToken", "()V"⟩
abbrev cX10_must : ByteArray := prog_12_method_9_code
def yX10_must : MethodName := ⟨RX10, "must", "(ZI)Z"⟩
abbrev cX10_is : ByteArray := prog_12_method_10_code
def yX10_is : MethodName := ⟨RX10, "is", "(Ljava/lang/String;)Z"⟩
abbrev cX10_number : ByteArray := prog_12_method_11_code
def yX10_number : MethodName := ⟨RX10, "number", "(II)I"⟩
abbrev cX10_readKind : ByteArray := prog_12_method_12_code
def yX10_readKind : MethodName := ⟨RX10, "readKind", "(IZ)V"⟩
abbrev cX10_once : ByteArray := prog_12_method_13_code
def yX10_once : MethodName := ⟨RX10, "once", "(III)I"⟩
abbrev cX10_statement : ByteArray := prog_12_method_14_code
def yX10_statement : MethodName := ⟨RX10, "statement", "()V"⟩
abbrev cX10_adopt : ByteArray := prog_12_method_15_code
def yX10_adopt : MethodName := ⟨RX10, "adopt", "([I)V"⟩
abbrev cX10_parse : ByteArray := prog_12_method_16_code
def yX10_parse : MethodName := ⟨RX10, "parse", "(I)I"⟩
abbrev cX10_clearState : ByteArray := prog_12_method_17_code
def yX10_clearState : MethodName := ⟨RX10, "clearState", "()V"⟩
abbrev cX10_keep : ByteArray := prog_12_method_18_code
def yX10_keep : MethodName := ⟨RX10, "keep", "()V"⟩
abbrev cX10_isType : ByteArray := prog_12_method_19_code
def yX10_isType : MethodName := ⟨RX10, "isType", "(I)Z"⟩
abbrev cX10_isBin : ByteArray := prog_12_method_20_code
def yX10_isBin : MethodName := ⟨RX10, "isBin", "(I)Z"⟩
abbrev cX10_isBag : ByteArray := prog_12_method_21_code
def yX10_isBag : MethodName := ⟨RX10, "isBag", "(I)Z"⟩
abbrev cX10_isCoin : ByteArray := prog_12_method_22_code
def yX10_isCoin : MethodName := ⟨RX10, "isCoin", "(II)Z"⟩
abbrev cX10_told : ByteArray := prog_12_method_23_code
def yX10_told : MethodName := ⟨RX10, "told", "(I)I"⟩
abbrev cX10_typeCount : ByteArray := prog_12_method_24_code
def yX10_typeCount : MethodName := ⟨RX10, "typeCount", "()I"⟩
abbrev cX10_fakeCount : ByteArray := prog_12_method_25_code
def yX10_fakeCount : MethodName := ⟨RX10, "fakeCount", "()I"⟩
abbrev cX10_binCount : ByteArray := prog_12_method_26_code
def yX10_binCount : MethodName := ⟨RX10, "binCount", "()I"⟩
abbrev cX10_typeValue : ByteArray := prog_12_method_27_code
def yX10_typeValue : MethodName := ⟨RX10, "typeValue", "(I)I"⟩
abbrev cX10_binType : ByteArray := prog_12_method_28_code
def yX10_binType : MethodName := ⟨RX10, "binType", "(I)I"⟩
abbrev cX10_bagSize : ByteArray := prog_12_method_29_code
def yX10_bagSize : MethodName := ⟨RX10, "bagSize", "(I)I"⟩
abbrev cX10_deviation : ByteArray := prog_12_method_30_code
def yX10_deviation : MethodName := ⟨RX10, "deviation", "(III)I"⟩
abbrev cX10_scoreFor : ByteArray := prog_12_method_31_code
def yX10_scoreFor : MethodName := ⟨RX10, "scoreFor", "(III)I"⟩
abbrev cX10_look : ByteArray := prog_12_method_32_code
def yX10_look : MethodName := ⟨RX10, "look", "(II)V"⟩
abbrev cX10_verdict : ByteArray := prog_12_method_33_code
def yX10_verdict : MethodName := ⟨RX10, "verdict", "(III)I"⟩
abbrev cX10_score : ByteArray := prog_12_method_34_code
def yX10_score : MethodName := ⟨RX10, "score", "(III)I"⟩
abbrev cX10_classify : ByteArray := prog_12_method_35_code
def yX10_classify : MethodName := ⟨RX10, "classify", "(II)I"⟩
abbrev cX10_diameterOffset : ByteArray := prog_12_method_36_code
def yX10_diameterOffset : MethodName := ⟨RX10, "diameterOffset", "()I"⟩
abbrev cX10_alloyOffset : ByteArray := prog_12_method_37_code
def yX10_alloyOffset : MethodName := ⟨RX10, "alloyOffset", "()I"⟩
abbrev cX10_margin : ByteArray := prog_12_method_38_code
def yX10_margin : MethodName := ⟨RX10, "margin", "()I"⟩
abbrev cX10_hopperSize : ByteArray := prog_12_method_39_code
def yX10_hopperSize : MethodName := ⟨RX10, "hopperSize", "()I"⟩
abbrev cX10_loopSize : ByteArray := prog_12_method_40_code
def yX10_loopSize : MethodName := ⟨RX10, "loopSize", "()I"⟩
abbrev cX10_loopType : ByteArray := prog_12_method_41_code
def yX10_loopType : MethodName := ⟨RX10, "loopType", "(I)I"⟩
abbrev cX10_isJammed : ByteArray := prog_12_method_42_code
def yX10_isJammed : MethodName := ⟨RX10, "isJammed", "()Z"⟩
abbrev cX10_hasBin : ByteArray := prog_12_method_43_code
def yX10_hasBin : MethodName := ⟨RX10, "hasBin", "(I)Z"⟩
abbrev cX10_missing : ByteArray := prog_12_method_44_code
def yX10_missing : MethodName := ⟨RX10, "missing", "(I)I"⟩
abbrev cX10_roomFor : ByteArray := prog_12_method_45_code
def yX10_roomFor : MethodName := ⟨RX10, "roomFor", "(I)I"⟩
abbrev cX10_movable : ByteArray := prog_12_method_46_code
def yX10_movable : MethodName := ⟨RX10, "movable", "()I"⟩
abbrev cX10_nextOutcome : ByteArray := prog_12_method_47_code
def yX10_nextOutcome : MethodName := ⟨RX10, "nextOutcome", "()I"⟩
abbrev cX10_isStopped : ByteArray := prog_12_method_48_code
def yX10_isStopped : MethodName := ⟨RX10, "isStopped", "()Z"⟩
abbrev cX10_binCoins : ByteArray := prog_12_method_49_code
def yX10_binCoins : MethodName := ⟨RX10, "binCoins", "(I)I"⟩
abbrev cX10_binFor : ByteArray := prog_12_method_50_code
def yX10_binFor : MethodName := ⟨RX10, "binFor", "(I)I"⟩
abbrev cX10_rejectPlace : ByteArray := prog_12_method_51_code
def yX10_rejectPlace : MethodName := ⟨RX10, "rejectPlace", "(I)I"⟩
abbrev cX10_rejected : ByteArray := prog_12_method_52_code
def yX10_rejected : MethodName := ⟨RX10, "rejected", "(I)I"⟩
abbrev cX10_stepCount : ByteArray := prog_12_method_53_code
def yX10_stepCount : MethodName := ⟨RX10, "stepCount", "()I"⟩
abbrev cX10_record : ByteArray := prog_12_method_54_code
def yX10_record : MethodName := ⟨RX10, "record", "(I)I"⟩
abbrev cX10_binValue : ByteArray := prog_12_method_55_code
def yX10_binValue : MethodName := ⟨RX10, "binValue", "()I"⟩
abbrev cX10_bagCount : ByteArray := prog_12_method_56_code
def yX10_bagCount : MethodName := ⟨RX10, "bagCount", "()I"⟩
abbrev cX10_bagType : ByteArray := prog_12_method_57_code
def yX10_bagType : MethodName := ⟨RX10, "bagType", "(I)I"⟩
abbrev cX10_bagCoins : ByteArray := prog_12_method_58_code
def yX10_bagCoins : MethodName := ⟨RX10, "bagCoins", "(I)I"⟩
abbrev cX10_partOf : ByteArray := prog_12_method_59_code
def yX10_partOf : MethodName := ⟨RX10, "partOf", "(I)I"⟩
abbrev cX10_discrepancy : ByteArray := prog_12_method_60_code
def yX10_discrepancy : MethodName := ⟨RX10, "discrepancy", "()I"⟩
abbrev cX10_worstBag : ByteArray := prog_12_method_61_code
def yX10_worstBag : MethodName := ⟨RX10, "worstBag", "()I"⟩
abbrev cX10_coinValue : ByteArray := prog_12_method_62_code
def yX10_coinValue : MethodName := ⟨RX10, "coinValue", "(I)I"⟩
abbrev cX10_fewestAt : ByteArray := prog_12_method_63_code
def yX10_fewestAt : MethodName := ⟨RX10, "fewestAt", "(II)I"⟩
abbrev cX10_layPayouts : ByteArray := prog_12_method_64_code
def yX10_layPayouts : MethodName := ⟨RX10, "layPayouts", "(I)V"⟩
abbrev cX10_pays : ByteArray := prog_12_method_65_code
def yX10_pays : MethodName := ⟨RX10, "pays", "(I)Z"⟩
abbrev cX10_isAmount : ByteArray := prog_12_method_66_code
def yX10_isAmount : MethodName := ⟨RX10, "isAmount", "(I)Z"⟩
abbrev cX10_payoutCoins : ByteArray := prog_12_method_67_code
def yX10_payoutCoins : MethodName := ⟨RX10, "payoutCoins", "(I)I"⟩
abbrev cX10_payoutOf : ByteArray := prog_12_method_68_code
def yX10_payoutOf : MethodName := ⟨RX10, "payoutOf", "(II)I"⟩
abbrev cX10_sampleCount : ByteArray := prog_12_method_69_code
def yX10_sampleCount : MethodName := ⟨RX10, "sampleCount", "()I"⟩
abbrev cX10_costOf : ByteArray := prog_12_method_70_code
def yX10_costOf : MethodName := ⟨RX10, "costOf", "(II)I"⟩
abbrev cX10_sampleVerdict : ByteArray := prog_12_method_71_code
def yX10_sampleVerdict : MethodName := ⟨RX10, "sampleVerdict", "(II)I"⟩
abbrev cX10_costWith : ByteArray := prog_12_method_72_code
def yX10_costWith : MethodName := ⟨RX10, "costWith", "(I)I"⟩
abbrev cX10_sampleCost : ByteArray := prog_12_method_73_code
def yX10_sampleCost : MethodName := ⟨RX10, "sampleCost", "(I)I"⟩
abbrev cX10_bestMargin : ByteArray := prog_12_method_74_code
def yX10_bestMargin : MethodName := ⟨RX10, "bestMargin", "()I"⟩
abbrev cX10_calibrate : ByteArray := prog_12_method_75_code
def yX10_calibrate : MethodName := ⟨RX10, "calibrate", "(III)Z"⟩
abbrev cX10_setMargin : ByteArray := prog_12_method_76_code
def yX10_setMargin : MethodName := ⟨RX10, "setMargin", "(I)I"⟩
abbrev cX10_insert : ByteArray := prog_12_method_77_code
def yX10_insert : MethodName := ⟨RX10, "insert", "(II)I"⟩
abbrev cX10_takeFromHopper : ByteArray := prog_12_method_78_code
def yX10_takeFromHopper : MethodName := ⟨RX10, "takeFromHopper", "()V"⟩
abbrev cX10_takeFromLoop : ByteArray := prog_12_method_79_code
def yX10_takeFromLoop : MethodName := ⟨RX10, "takeFromLoop", "(I)V"⟩
abbrev cX10_note : ByteArray := prog_12_method_80_code
def yX10_note : MethodName := ⟨RX10, "note", "(I)V"⟩
abbrev cX10_isStep : ByteArray := prog_12_method_81_code
def yX10_isStep : MethodName := ⟨RX10, "isStep", "(I)Z"⟩
abbrev cX10_doStep : ByteArray := prog_12_method_82_code
def yX10_doStep : MethodName := ⟨RX10, "doStep", "(I)V"⟩
abbrev cX10_step : ByteArray := prog_12_method_83_code
def yX10_step : MethodName := ⟨RX10, "step", "()I"⟩
abbrev cX10_run : ByteArray := prog_12_method_84_code
def yX10_run : MethodName := ⟨RX10, "run", "(I)I"⟩
abbrev cX10_clearJam : ByteArray := prog_12_method_85_code
def yX10_clearJam : MethodName := ⟨RX10, "clearJam", "()Z"⟩
abbrev cX10_changeBag : ByteArray := prog_12_method_86_code
def yX10_changeBag : MethodName := ⟨RX10, "changeBag", "(I)I"⟩
abbrev cX10_audit : ByteArray := prog_12_method_87_code
def yX10_audit : MethodName := ⟨RX10, "audit", "(II)I"⟩
abbrev cX10_dispense : ByteArray := prog_12_method_88_code
def yX10_dispense : MethodName := ⟨RX10, "dispense", "(I)I"⟩
abbrev cX10_addSample : ByteArray := prog_12_method_89_code
def yX10_addSample : MethodName := ⟨RX10, "addSample", "(III)I"⟩
abbrev cX10_undo : ByteArray := prog_12_method_90_code
def yX10_undo : MethodName := ⟨RX10, "undo", "()I"⟩
abbrev cX10_saveSnapshot : ByteArray := prog_12_method_91_code
def yX10_saveSnapshot : MethodName := ⟨RX10, "saveSnapshot", "(I)Z"⟩
abbrev cX10_restoreSnapshot : ByteArray := prog_12_method_92_code
def yX10_restoreSnapshot : MethodName := ⟨RX10, "restoreSnapshot", "(I)Z"⟩
def RJ9 : String := "java/lang/Math"
abbrev cJ9_floorMod_7cf53 : ByteArray := prog_21_method_50_code
def yJ9_floorMod_7cf53 : MethodName := ⟨RJ9, "floorMod", "(II)I"⟩
abbrev cJ9_abs_0f7a4 : ByteArray := prog_21_method_59_code
def yJ9_abs_0f7a4 : MethodName := ⟨RJ9, "abs", "(I)I"⟩
abbrev cJ9_max_7cf53 : ByteArray := prog_21_method_65_code
def yJ9_max_7cf53 : MethodName := ⟨RJ9, "max", "(II)I"⟩
abbrev cJ9_min_7cf53 : ByteArray := prog_21_method_69_code
def yJ9_min_7cf53 : MethodName := ⟨RJ9, "min", "(II)I"⟩
def RJ0 : String := "java/lang/String"
abbrev cJ0_init_81219 : ByteArray := prog_24_method_53_code
def yJ0_init_81219 : MethodName := ⟨RJ0, "<init>", "(Ljava/lang/StringBuilder;)V"⟩
abbrev cJ0_length_8abf5 : ByteArray := prog_24_method_54_code
def yJ0_length_8abf5 : MethodName := ⟨RJ0, "length", "()I"⟩
abbrev cJ0_charAt_5068e : ByteArray := prog_24_method_56_code
def yJ0_charAt_5068e : MethodName := ⟨RJ0, "charAt", "(I)C"⟩
abbrev cJ0_getBytes_840e7 : ByteArray := prog_24_method_147_code
def yJ0_getBytes_840e7 : MethodName := ⟨RJ0, "getBytes", "([BIB)V"⟩
abbrev cJ0_init_db425 : ByteArray := prog_24_method_150_code
def yJ0_init_db425 : MethodName := ⟨RJ0, "<init>", "(Ljava/lang/AbstractStringBuilder;Ljava/lang/Void;)V"⟩
abbrev cJ0_coder_7d493 : ByteArray := prog_24_method_152_code
def yJ0_coder_7d493 : MethodName := ⟨RJ0, "coder", "()B"⟩
abbrev cJ0_isLatin1_aae02 : ByteArray := prog_24_method_154_code
def yJ0_isLatin1_aae02 : MethodName := ⟨RJ0, "isLatin1", "()Z"⟩
abbrev cJ0_checkIndex_df160 : ByteArray := prog_24_method_155_code
def yJ0_checkIndex_df160 : MethodName := ⟨RJ0, "checkIndex", "(II)V"⟩
abbrev cJ0_checkBoundsOffCount_cabcc : ByteArray := prog_24_method_157_code
def yJ0_checkBoundsOffCount_cabcc : MethodName := ⟨RJ0, "checkBoundsOffCount", "(III)I"⟩
abbrev cJ0_checkBoundsBeginEnd_23922 : ByteArray := prog_24_method_158_code
def yJ0_checkBoundsBeginEnd_23922 : MethodName := ⟨RJ0, "checkBoundsBeginEnd", "(III)V"⟩
def RJ1 : String := "java/lang/StringLatin1"
abbrev cJ1_charAt_3b067 : ByteArray := prog_26_method_2_code
def yJ1_charAt_3b067 : MethodName := ⟨RJ1, "charAt", "([BI)C"⟩
abbrev cJ1_inflate_0e8fd : ByteArray := prog_26_method_50_code
def yJ1_inflate_0e8fd : MethodName := ⟨RJ1, "inflate", "([BI[BII)V"⟩
def RJ2 : String := "java/lang/StringUTF16"
def RJ7 : String := "java/util/Arrays"
abbrev cJ7_rangeCheck_23922 : ByteArray := prog_30_method_30_code
def yJ7_rangeCheck_23922 : MethodName := ⟨RJ7, "rangeCheck", "(III)V"⟩
abbrev cJ7_fill_bad5a : ByteArray := prog_30_method_102_code
def yJ7_fill_bad5a : MethodName := ⟨RJ7, "fill", "([JIIJ)V"⟩
abbrev cJ7_fill_53178 : ByteArray := prog_30_method_103_code
def yJ7_fill_53178 : MethodName := ⟨RJ7, "fill", "([II)V"⟩
abbrev cJ7_fill_fda19 : ByteArray := prog_30_method_104_code
def yJ7_fill_fda19 : MethodName := ⟨RJ7, "fill", "([IIII)V"⟩
abbrev cJ7_copyOf_9075b : ByteArray := prog_30_method_121_code
def yJ7_copyOf_9075b : MethodName := ⟨RJ7, "copyOf", "([BI)[B"⟩
abbrev cJ7_checkLength_df160 : ByteArray := prog_30_method_131_code
def yJ7_checkLength_df160 : MethodName := ⟨RJ7, "checkLength", "(II)V"⟩
abbrev cJ7_copyOfRange_39247 : ByteArray := prog_30_method_132_code
def yJ7_copyOfRange_39247 : MethodName := ⟨RJ7, "copyOfRange", "([BII)[B"⟩
abbrev cJ7_copyOfRangeByte_39247 : ByteArray := prog_30_method_133_code
def yJ7_copyOfRangeByte_39247 : MethodName := ⟨RJ7, "copyOfRangeByte", "([BII)[B"⟩
def RJ3 : String := "jdk/internal/util/Preconditions"
abbrev cJ3_checkIndex_8e157 : ByteArray := prog_32_method_11_code
def yJ3_checkIndex_8e157 : MethodName := ⟨RJ3, "checkIndex", "(IILjava/util/function/BiFunction;)I"⟩
abbrev cJ3_checkFromToIndex_8c36e : ByteArray := prog_32_method_12_code
def yJ3_checkFromToIndex_8c36e : MethodName := ⟨RJ3, "checkFromToIndex", "(IIILjava/util/function/BiFunction;)I"⟩
abbrev cJ3_checkFromIndexSize_8c36e : ByteArray := prog_32_method_13_code
def yJ3_checkFromIndexSize_8c36e : MethodName := ⟨RJ3, "checkFromIndexSize", "(IIILjava/util/function/BiFunction;)I"⟩
def RL : String := "CoinSorterLaw"
abbrev cL_score : ByteArray := method_3_code
def yL_score : MethodName := ⟨RL, "score", "(LCoinSorter;III[J)I"⟩
abbrev cL_classify : ByteArray := method_4_code
def yL_classify : MethodName := ⟨RL, "classify", "(LCoinSorter;II[J)I"⟩
abbrev cL_audit : ByteArray := method_5_code
def yL_audit : MethodName := ⟨RL, "audit", "(LCoinSorter;II[J)I"⟩
abbrev cL_law : ByteArray := code
def yL_law : MethodName := ⟨RL, "law", "([I)Z"⟩
abbrev cl_L : List vw_C := [(RX0, TX0, 7), (RX1, TX1, 3), (RX2, TX2, 2), (RX3, TX3, 5), (RX4, TX4, 9), (RX5, TX5, 5), (RX6, TX6, 2), (RX7, TX7, 15), (RX8, TX8, 2), (RX9, TX9, 12), (RX10, TX10, 29)]
def jv_isNest : Cond → Bool
  | .fieldLinkNest _ _ _ _ _ _ => true
  | .methodLinkNest _ _ _ _ => true
  | .castable _ _ => true
  | .declares _ => true
  | _ => false
def gd_L : List Cond := lw_tbl.filter goodWord
def ns_L : List Cond := lw_tbl.filter jv_isNest
theorem gd_at (i : Nat) {w : Cond} (h : lw_tbl[i]? = some w) (g : goodWord w = true) : w ∈ gd_L := List.mem_filter.mpr ⟨List.mem_of_getElem? h, g⟩
theorem ns_at (i : Nat) {w : Cond} (h : lw_tbl[i]? = some w) (g : jv_isNest w = true) : w ∈ ns_L := List.mem_filter.mpr ⟨List.mem_of_getElem? h, g⟩
theorem gd_good {w : Cond} (h : w ∈ gd_L) : goodWord w = true := (List.mem_filter.mp h).2
theorem gd_ws {C : String} {T : u_T} {N : Nat} (is : List Nat) (h : u_ws C T N = is.filterMap (fun i => lw_tbl[i]?)) (hg : (u_ws C T N).all goodWord = true) : ∀ w ∈ u_ws C T N, w ∈ gd_L := by
  intro w hw
  have h1 := List.all_eq_true.mp hg w hw
  rw [h] at hw
  obtain ⟨i, -, hi⟩ := List.mem_filterMap.mp hw
  exact gd_at i hi h1
theorem uw_X0 : ∀ w ∈ u_ws RX0 TX0 7, w ∈ gd_L := gd_ws [252, 254, 256, 258, 260, 262, 264] (by decide +kernel) (by decide +kernel)
theorem uw_X1 : ∀ w ∈ u_ws RX1 TX1 3, w ∈ gd_L := gd_ws [691, 693, 695] (by decide +kernel) (by decide +kernel)
theorem uw_X2 : ∀ w ∈ u_ws RX2 TX2 2, w ∈ gd_L := gd_ws [707, 709] (by decide +kernel) (by decide +kernel)
theorem uw_X3 : ∀ w ∈ u_ws RX3 TX3 5, w ∈ gd_L := gd_ws [214, 216, 218, 220, 222] (by decide +kernel) (by decide +kernel)
theorem uw_X4 : ∀ w ∈ u_ws RX4 TX4 9, w ∈ gd_L := gd_ws [147, 149, 151, 153, 155, 157, 159, 161, 163] (by decide +kernel) (by decide +kernel)
theorem uw_X5 : ∀ w ∈ u_ws RX5 TX5 5, w ∈ gd_L := gd_ws [727, 729, 731, 733, 735] (by decide +kernel) (by decide +kernel)
theorem uw_X6 : ∀ w ∈ u_ws RX6 TX6 2, w ∈ gd_L := gd_ws [195, 197] (by decide +kernel) (by decide +kernel)
theorem uw_X7 : ∀ w ∈ u_ws RX7 TX7 15, w ∈ gd_L := gd_ws [647, 649, 651, 653, 655, 657, 659, 661, 663, 665, 667, 669, 671, 673, 675] (by decide +kernel) (by decide +kernel)
theorem uw_X8 : ∀ w ∈ u_ws RX8 TX8 2, w ∈ gd_L := gd_ws [749, 751] (by decide +kernel) (by decide +kernel)
theorem uw_X9 : ∀ w ∈ u_ws RX9 TX9 12, w ∈ gd_L := gd_ws [766, 768, 770, 772, 774, 776, 778, 780, 782, 784, 786, 788] (by decide +kernel) (by decide +kernel)
theorem uw_X10 : ∀ w ∈ u_ws RX10 TX10 29, w ∈ gd_L := gd_ws [1382, 1384, 1386, 1388, 1390, 1392, 1394, 1396, 1398, 1400, 1402, 1404, 1406, 1408, 1410, 1412, 1414, 1416, 1418, 1420, 1422, 1424, 1426, 1428, 1430, 1432, 1434, 1436, 1438] (by decide +kernel) (by decide +kernel)
end
section
theorem gw_0 : Cond.selects "CoinSorter$Row" ⟨"CoinSorter$Row", "fillWithZeros", "(I)V"⟩ ⟨"CoinSorter$Row", "fillWithZeros", "(I)V"⟩ ∈ gd_L := gd_at 0 (by decide +kernel) (by decide +kernel)
theorem gw_2 : Cond.selects "CoinSorter" ⟨"CoinSorter", "appendWord", "(I)V"⟩ ⟨"CoinSorter", "appendWord", "(I)V"⟩ ∈ gd_L := gd_at 2 (by decide +kernel) (by decide +kernel)
theorem gw_3 : Cond.selects "CoinSorter$Config" ⟨"CoinSorter$Config", "reset", "()V"⟩ ⟨"CoinSorter$Config", "reset", "()V"⟩ ∈ gd_L := gd_at 3 (by decide +kernel) (by decide +kernel)
theorem gw_4 : Cond.selects "CoinSorter$Kinds" ⟨"CoinSorter$Kinds", "empty", "()V"⟩ ⟨"CoinSorter$Kinds", "empty", "()V"⟩ ∈ gd_L := gd_at 4 (by decide +kernel) (by decide +kernel)
theorem gw_5 : Cond.selects "CoinSorter$Row" ⟨"CoinSorter$Row", "empty", "()V"⟩ ⟨"CoinSorter$Row", "empty", "()V"⟩ ∈ gd_L := gd_at 5 (by decide +kernel) (by decide +kernel)
theorem gw_6 : Cond.selects "CoinSorter$Parser" ⟨"CoinSorter$Parser", "begin", "([BI)V"⟩ ⟨"CoinSorter$Parser", "begin", "([BI)V"⟩ ∈ gd_L := gd_at 6 (by decide +kernel) (by decide +kernel)
theorem gw_7 : Cond.selects "CoinSorter$Parser" ⟨"CoinSorter$Parser", "hasStatement", "()Z"⟩ ⟨"CoinSorter$Parser", "hasStatement", "()Z"⟩ ∈ gd_L := gd_at 7 (by decide +kernel) (by decide +kernel)
theorem gw_8 : Cond.selects "CoinSorter$Parser" ⟨"CoinSorter$Parser", "readToken", "()V"⟩ ⟨"CoinSorter$Parser", "readToken", "()V"⟩ ∈ gd_L := gd_at 8 (by decide +kernel) (by decide +kernel)
theorem gw_9 : Cond.selects "CoinSorter$Parser" ⟨"CoinSorter$Parser", "endOfRun", "(II)I"⟩ ⟨"CoinSorter$Parser", "endOfRun", "(II)I"⟩ ∈ gd_L := gd_at 9 (by decide +kernel) (by decide +kernel)
theorem gw_10 : Cond.selects "CoinSorter$Parser" ⟨"CoinSorter$Parser", "byteAt", "(I)I"⟩ ⟨"CoinSorter$Parser", "byteAt", "(I)I"⟩ ∈ gd_L := gd_at 10 (by decide +kernel) (by decide +kernel)
theorem gw_11 : Cond.selects "CoinSorter$Parser" ⟨"CoinSorter$Parser", "readStatement", "(LCoinSorter$Config;)V"⟩ ⟨"CoinSorter$Parser", "readStatement", "(LCoinSorter$Config;)V"⟩ ∈ gd_L := gd_at 11 (by decide +kernel) (by decide +kernel)
theorem gw_12 : Cond.selects "CoinSorter$Parser" ⟨"CoinSorter$Parser", "isWord", "(Ljava/lang/String;)Z"⟩ ⟨"CoinSorter$Parser", "isWord", "(Ljava/lang/String;)Z"⟩ ∈ gd_L := gd_at 12 (by decide +kernel) (by decide +kernel)
theorem gw_13 : Cond.selects "CoinSorter$Parser" ⟨"CoinSorter$Parser", "readKind", "(LCoinSorter$Kinds;Z)V"⟩ ⟨"CoinSorter$Parser", "readKind", "(LCoinSorter$Kinds;Z)V"⟩ ∈ gd_L := gd_at 13 (by decide +kernel) (by decide +kernel)
theorem gw_14 : Cond.selects "CoinSorter$Row" ⟨"CoinSorter$Row", "isFull", "()Z"⟩ ⟨"CoinSorter$Row", "isFull", "()Z"⟩ ∈ gd_L := gd_at 14 (by decide +kernel) (by decide +kernel)
theorem gw_15 : Cond.selects "CoinSorter$Parser" ⟨"CoinSorter$Parser", "failIf", "(ZI)V"⟩ ⟨"CoinSorter$Parser", "failIf", "(ZI)V"⟩ ∈ gd_L := gd_at 15 (by decide +kernel) (by decide +kernel)
theorem gw_16 : Cond.selects "CoinSorter$Parser" ⟨"CoinSorter$Parser", "readNumber", "(II)I"⟩ ⟨"CoinSorter$Parser", "readNumber", "(II)I"⟩ ∈ gd_L := gd_at 16 (by decide +kernel) (by decide +kernel)
theorem gw_17 : Cond.selects "CoinSorter$Parser" ⟨"CoinSorter$Parser", "number", "()I"⟩ ⟨"CoinSorter$Parser", "number", "()I"⟩ ∈ gd_L := gd_at 17 (by decide +kernel) (by decide +kernel)
theorem gw_18 : Cond.selects "CoinSorter$Row" ⟨"CoinSorter$Row", "add", "(I)V"⟩ ⟨"CoinSorter$Row", "add", "(I)V"⟩ ∈ gd_L := gd_at 18 (by decide +kernel) (by decide +kernel)
theorem gw_19 : Cond.selects "CoinSorter$Parser" ⟨"CoinSorter$Parser", "readBin", "(LCoinSorter$Config;)V"⟩ ⟨"CoinSorter$Parser", "readBin", "(LCoinSorter$Config;)V"⟩ ∈ gd_L := gd_at 19 (by decide +kernel) (by decide +kernel)
theorem gw_20 : Cond.selects "CoinSorter$Kinds" ⟨"CoinSorter$Kinds", "count", "()I"⟩ ⟨"CoinSorter$Kinds", "count", "()I"⟩ ∈ gd_L := gd_at 20 (by decide +kernel) (by decide +kernel)
theorem gw_21 : Cond.selects "CoinSorter$Parser" ⟨"CoinSorter$Parser", "readSemicolon", "()V"⟩ ⟨"CoinSorter$Parser", "readSemicolon", "()V"⟩ ∈ gd_L := gd_at 21 (by decide +kernel) (by decide +kernel)
theorem gw_22 : Cond.selects "CoinSorter" ⟨"CoinSorter", "takeSpareConfig", "()V"⟩ ⟨"CoinSorter", "takeSpareConfig", "()V"⟩ ∈ gd_L := gd_at 22 (by decide +kernel) (by decide +kernel)
theorem gw_23 : Cond.selects "CoinSorter$State" ⟨"CoinSorter$State", "reset", "(LCoinSorter$Config;)V"⟩ ⟨"CoinSorter$State", "reset", "(LCoinSorter$Config;)V"⟩ ∈ gd_L := gd_at 23 (by decide +kernel) (by decide +kernel)
theorem gw_24 : Cond.selects "CoinSorter$History" ⟨"CoinSorter$History", "forget", "()V"⟩ ⟨"CoinSorter$History", "forget", "()V"⟩ ∈ gd_L := gd_at 24 (by decide +kernel) (by decide +kernel)
theorem gw_25 : Cond.selects "CoinSorter$Row" ⟨"CoinSorter$Row", "at", "(I)I"⟩ ⟨"CoinSorter$Row", "at", "(I)I"⟩ ∈ gd_L := gd_at 25 (by decide +kernel) (by decide +kernel)
theorem gw_26 : Cond.selects "CoinSorter" ⟨"CoinSorter", "nextOutcome", "()I"⟩ ⟨"CoinSorter", "nextOutcome", "()I"⟩ ∈ gd_L := gd_at 26 (by decide +kernel) (by decide +kernel)
theorem gw_27 : Cond.selects "CoinSorter" ⟨"CoinSorter", "nextInLoop", "()I"⟩ ⟨"CoinSorter", "nextInLoop", "()I"⟩ ∈ gd_L := gd_at 27 (by decide +kernel) (by decide +kernel)
theorem gw_28 : Cond.selects "CoinSorter" ⟨"CoinSorter", "isType", "(I)Z"⟩ ⟨"CoinSorter", "isType", "(I)Z"⟩ ∈ gd_L := gd_at 28 (by decide +kernel) (by decide +kernel)
theorem gw_29 : Cond.selects "CoinSorter$Row" ⟨"CoinSorter$Row", "has", "(I)Z"⟩ ⟨"CoinSorter$Row", "has", "(I)Z"⟩ ∈ gd_L := gd_at 29 (by decide +kernel) (by decide +kernel)
theorem gw_30 : Cond.selects "CoinSorter" ⟨"CoinSorter", "outcomeOf", "(II)I"⟩ ⟨"CoinSorter", "outcomeOf", "(II)I"⟩ ∈ gd_L := gd_at 30 (by decide +kernel) (by decide +kernel)
theorem gw_31 : Cond.selects "CoinSorter" ⟨"CoinSorter", "verdict", "(III)I"⟩ ⟨"CoinSorter", "verdict", "(III)I"⟩ ∈ gd_L := gd_at 31 (by decide +kernel) (by decide +kernel)
theorem gw_32 : Cond.selects "CoinSorter$Judge" ⟨"CoinSorter$Judge", "examine", "(LCoinSorter$Config;II)V"⟩ ⟨"CoinSorter$Judge", "examine", "(LCoinSorter$Config;II)V"⟩ ∈ gd_L := gd_at 32 (by decide +kernel) (by decide +kernel)
theorem gw_33 : Cond.selects "CoinSorter$Kinds" ⟨"CoinSorter$Kinds", "scoreOf", "(III)I"⟩ ⟨"CoinSorter$Kinds", "scoreOf", "(III)I"⟩ ∈ gd_L := gd_at 33 (by decide +kernel) (by decide +kernel)
theorem gw_34 : Cond.selects "CoinSorter$Judge" ⟨"CoinSorter$Judge", "verdictAt", "(I)I"⟩ ⟨"CoinSorter$Judge", "verdictAt", "(I)I"⟩ ∈ gd_L := gd_at 34 (by decide +kernel) (by decide +kernel)
theorem gw_35 : Cond.selects "CoinSorter" ⟨"CoinSorter", "hasBin", "(I)Z"⟩ ⟨"CoinSorter", "hasBin", "(I)Z"⟩ ∈ gd_L := gd_at 35 (by decide +kernel) (by decide +kernel)
theorem gw_36 : Cond.selects "CoinSorter" ⟨"CoinSorter", "discrepancyOf", "(I)I"⟩ ⟨"CoinSorter", "discrepancyOf", "(I)I"⟩ ∈ gd_L := gd_at 36 (by decide +kernel) (by decide +kernel)
theorem gw_37 : Cond.selects "CoinSorter" ⟨"CoinSorter", "planPayout", "(I)I"⟩ ⟨"CoinSorter", "planPayout", "(I)I"⟩ ∈ gd_L := gd_at 37 (by decide +kernel) (by decide +kernel)
theorem gw_38 : Cond.selects "CoinSorter$Payout" ⟨"CoinSorter$Payout", "takeStock", "(LCoinSorter$Config;LCoinSorter$Row;)V"⟩ ⟨"CoinSorter$Payout", "takeStock", "(LCoinSorter$Config;LCoinSorter$Row;)V"⟩ ∈ gd_L := gd_at 38 (by decide +kernel) (by decide +kernel)
theorem gw_39 : Cond.selects "CoinSorter$Payout" ⟨"CoinSorter$Payout", "plan", "(LCoinSorter$Row;I)I"⟩ ⟨"CoinSorter$Payout", "plan", "(LCoinSorter$Row;I)I"⟩ ∈ gd_L := gd_at 39 (by decide +kernel) (by decide +kernel)
theorem gw_40 : Cond.selects "CoinSorter$Payout" ⟨"CoinSorter$Payout", "weighType", "(IIJI)V"⟩ ⟨"CoinSorter$Payout", "weighType", "(IIJI)V"⟩ ∈ gd_L := gd_at 40 (by decide +kernel) (by decide +kernel)
theorem gw_41 : Cond.selects "CoinSorter$Payout" ⟨"CoinSorter$Payout", "weighPacket", "(IJI)V"⟩ ⟨"CoinSorter$Payout", "weighPacket", "(IJI)V"⟩ ∈ gd_L := gd_at 41 (by decide +kernel) (by decide +kernel)
theorem gw_42 : Cond.selects "CoinSorter$Payout" ⟨"CoinSorter$Payout", "readCoins", "(J)I"⟩ ⟨"CoinSorter$Payout", "readCoins", "(J)I"⟩ ∈ gd_L := gd_at 42 (by decide +kernel) (by decide +kernel)
theorem gw_43 : Cond.selects "CoinSorter$Tuning" ⟨"CoinSorter$Tuning", "begin", "()V"⟩ ⟨"CoinSorter$Tuning", "begin", "()V"⟩ ∈ gd_L := gd_at 43 (by decide +kernel) (by decide +kernel)
theorem gw_44 : Cond.selects "CoinSorter$Tuning" ⟨"CoinSorter$Tuning", "add", "(II)V"⟩ ⟨"CoinSorter$Tuning", "add", "(II)V"⟩ ∈ gd_L := gd_at 44 (by decide +kernel) (by decide +kernel)
theorem gw_45 : Cond.selects "CoinSorter$Tuning" ⟨"CoinSorter$Tuning", "best", "()I"⟩ ⟨"CoinSorter$Tuning", "best", "()I"⟩ ∈ gd_L := gd_at 45 (by decide +kernel) (by decide +kernel)
theorem gw_46 : Cond.selects "CoinSorter$Tuning" ⟨"CoinSorter$Tuning", "riseAt", "(I)I"⟩ ⟨"CoinSorter$Tuning", "riseAt", "(I)I"⟩ ∈ gd_L := gd_at 46 (by decide +kernel) (by decide +kernel)
theorem gw_47 : Cond.selects "CoinSorter$History" ⟨"CoinSorter$History", "push", "(LCoinSorter$State;)V"⟩ ⟨"CoinSorter$History", "push", "(LCoinSorter$State;)V"⟩ ∈ gd_L := gd_at 47 (by decide +kernel) (by decide +kernel)
theorem gw_48 : Cond.selects "CoinSorter$State" ⟨"CoinSorter$State", "copyFrom", "(LCoinSorter$State;)V"⟩ ⟨"CoinSorter$State", "copyFrom", "(LCoinSorter$State;)V"⟩ ∈ gd_L := gd_at 48 (by decide +kernel) (by decide +kernel)
theorem gw_49 : Cond.selects "CoinSorter$Row" ⟨"CoinSorter$Row", "copyFrom", "(LCoinSorter$Row;)V"⟩ ⟨"CoinSorter$Row", "copyFrom", "(LCoinSorter$Row;)V"⟩ ∈ gd_L := gd_at 49 (by decide +kernel) (by decide +kernel)
theorem gw_50 : Cond.selects "CoinSorter" ⟨"CoinSorter", "move", "(I)V"⟩ ⟨"CoinSorter", "move", "(I)V"⟩ ∈ gd_L := gd_at 50 (by decide +kernel) (by decide +kernel)
theorem gw_51 : Cond.selects "CoinSorter$Row" ⟨"CoinSorter$Row", "removeAt", "(I)I"⟩ ⟨"CoinSorter$Row", "removeAt", "(I)I"⟩ ∈ gd_L := gd_at 51 (by decide +kernel) (by decide +kernel)
theorem gw_52 : Cond.selects "CoinSorter$Row" ⟨"CoinSorter$Row", "increase", "(II)V"⟩ ⟨"CoinSorter$Row", "increase", "(II)V"⟩ ∈ gd_L := gd_at 52 (by decide +kernel) (by decide +kernel)
theorem gw_53 : Cond.selects "CoinSorter$State" ⟨"CoinSorter$State", "addRecord", "(I)V"⟩ ⟨"CoinSorter$State", "addRecord", "(I)V"⟩ ∈ gd_L := gd_at 53 (by decide +kernel) (by decide +kernel)
theorem gw_54 : Cond.selects "CoinSorter$History" ⟨"CoinSorter$History", "pop", "(LCoinSorter$State;)Z"⟩ ⟨"CoinSorter$History", "pop", "(LCoinSorter$State;)Z"⟩ ∈ gd_L := gd_at 54 (by decide +kernel) (by decide +kernel)
theorem gw_56 : Cond.selects "CoinSorterModel" ⟨"CoinSorterModel", "clearState", "()V"⟩ ⟨"CoinSorterModel", "clearState", "()V"⟩ ∈ gd_L := gd_at 56 (by decide +kernel) (by decide +kernel)
theorem gw_57 : Cond.selects "CoinSorterModel" ⟨"CoinSorterModel", "appendInt", "(I)V"⟩ ⟨"CoinSorterModel", "appendInt", "(I)V"⟩ ∈ gd_L := gd_at 57 (by decide +kernel) (by decide +kernel)
theorem gw_58 : Cond.selects "CoinSorterModel" ⟨"CoinSorterModel", "nextToken", "()V"⟩ ⟨"CoinSorterModel", "nextToken", "()V"⟩ ∈ gd_L := gd_at 58 (by decide +kernel) (by decide +kernel)
theorem gw_59 : Cond.selects "CoinSorterModel" ⟨"CoinSorterModel", "byteAt", "(I)I"⟩ ⟨"CoinSorterModel", "byteAt", "(I)I"⟩ ∈ gd_L := gd_at 59 (by decide +kernel) (by decide +kernel)
theorem gw_60 : Cond.selects "CoinSorterModel" ⟨"CoinSorterModel", "statement", "()V"⟩ ⟨"CoinSorterModel", "statement", "()V"⟩ ∈ gd_L := gd_at 60 (by decide +kernel) (by decide +kernel)
theorem gw_61 : Cond.selects "CoinSorterModel" ⟨"CoinSorterModel", "is", "(Ljava/lang/String;)Z"⟩ ⟨"CoinSorterModel", "is", "(Ljava/lang/String;)Z"⟩ ∈ gd_L := gd_at 61 (by decide +kernel) (by decide +kernel)
theorem gw_62 : Cond.selects "CoinSorterModel" ⟨"CoinSorterModel", "must", "(ZI)Z"⟩ ⟨"CoinSorterModel", "must", "(ZI)Z"⟩ ∈ gd_L := gd_at 62 (by decide +kernel) (by decide +kernel)
theorem gw_63 : Cond.selects "CoinSorterModel" ⟨"CoinSorterModel", "readKind", "(IZ)V"⟩ ⟨"CoinSorterModel", "readKind", "(IZ)V"⟩ ∈ gd_L := gd_at 63 (by decide +kernel) (by decide +kernel)
theorem gw_64 : Cond.selects "CoinSorterModel" ⟨"CoinSorterModel", "number", "(II)I"⟩ ⟨"CoinSorterModel", "number", "(II)I"⟩ ∈ gd_L := gd_at 64 (by decide +kernel) (by decide +kernel)
theorem gw_65 : Cond.selects "CoinSorterModel" ⟨"CoinSorterModel", "once", "(III)I"⟩ ⟨"CoinSorterModel", "once", "(III)I"⟩ ∈ gd_L := gd_at 65 (by decide +kernel) (by decide +kernel)
theorem gw_66 : Cond.selects "CoinSorterModel" ⟨"CoinSorterModel", "told", "(I)I"⟩ ⟨"CoinSorterModel", "told", "(I)I"⟩ ∈ gd_L := gd_at 66 (by decide +kernel) (by decide +kernel)
theorem gw_67 : Cond.selects "CoinSorterModel" ⟨"CoinSorterModel", "isType", "(I)Z"⟩ ⟨"CoinSorterModel", "isType", "(I)Z"⟩ ∈ gd_L := gd_at 67 (by decide +kernel) (by decide +kernel)
theorem gw_68 : Cond.selects "CoinSorterModel" ⟨"CoinSorterModel", "isBin", "(I)Z"⟩ ⟨"CoinSorterModel", "isBin", "(I)Z"⟩ ∈ gd_L := gd_at 68 (by decide +kernel) (by decide +kernel)
theorem gw_69 : Cond.selects "CoinSorterModel" ⟨"CoinSorterModel", "fail", "(I)I"⟩ ⟨"CoinSorterModel", "fail", "(I)I"⟩ ∈ gd_L := gd_at 69 (by decide +kernel) (by decide +kernel)
theorem gw_70 : Cond.selects "CoinSorterModel" ⟨"CoinSorterModel", "scoreFor", "(III)I"⟩ ⟨"CoinSorterModel", "scoreFor", "(III)I"⟩ ∈ gd_L := gd_at 70 (by decide +kernel) (by decide +kernel)
theorem gw_71 : Cond.selects "CoinSorterModel" ⟨"CoinSorterModel", "verdict", "(III)I"⟩ ⟨"CoinSorterModel", "verdict", "(III)I"⟩ ∈ gd_L := gd_at 71 (by decide +kernel) (by decide +kernel)
theorem gw_72 : Cond.selects "CoinSorterModel" ⟨"CoinSorterModel", "look", "(II)V"⟩ ⟨"CoinSorterModel", "look", "(II)V"⟩ ∈ gd_L := gd_at 72 (by decide +kernel) (by decide +kernel)
theorem gw_73 : Cond.selects "CoinSorterModel" ⟨"CoinSorterModel", "nextOutcome", "()I"⟩ ⟨"CoinSorterModel", "nextOutcome", "()I"⟩ ∈ gd_L := gd_at 73 (by decide +kernel) (by decide +kernel)
theorem gw_74 : Cond.selects "CoinSorterModel" ⟨"CoinSorterModel", "movable", "()I"⟩ ⟨"CoinSorterModel", "movable", "()I"⟩ ∈ gd_L := gd_at 74 (by decide +kernel) (by decide +kernel)
theorem gw_75 : Cond.selects "CoinSorterModel" ⟨"CoinSorterModel", "roomFor", "(I)I"⟩ ⟨"CoinSorterModel", "roomFor", "(I)I"⟩ ∈ gd_L := gd_at 75 (by decide +kernel) (by decide +kernel)
theorem gw_76 : Cond.selects "CoinSorterModel" ⟨"CoinSorterModel", "missing", "(I)I"⟩ ⟨"CoinSorterModel", "missing", "(I)I"⟩ ∈ gd_L := gd_at 76 (by decide +kernel) (by decide +kernel)
theorem gw_77 : Cond.selects "CoinSorterModel" ⟨"CoinSorterModel", "hasBin", "(I)Z"⟩ ⟨"CoinSorterModel", "hasBin", "(I)Z"⟩ ∈ gd_L := gd_at 77 (by decide +kernel) (by decide +kernel)
theorem gw_78 : Cond.selects "CoinSorterModel" ⟨"CoinSorterModel", "isBag", "(I)Z"⟩ ⟨"CoinSorterModel", "isBag", "(I)Z"⟩ ∈ gd_L := gd_at 78 (by decide +kernel) (by decide +kernel)
theorem gw_79 : Cond.selects "CoinSorterModel" ⟨"CoinSorterModel", "partOf", "(I)I"⟩ ⟨"CoinSorterModel", "partOf", "(I)I"⟩ ∈ gd_L := gd_at 79 (by decide +kernel) (by decide +kernel)
theorem gw_80 : Cond.selects "CoinSorterModel" ⟨"CoinSorterModel", "pays", "(I)Z"⟩ ⟨"CoinSorterModel", "pays", "(I)Z"⟩ ∈ gd_L := gd_at 80 (by decide +kernel) (by decide +kernel)
theorem gw_81 : Cond.selects "CoinSorterModel" ⟨"CoinSorterModel", "layPayouts", "(I)V"⟩ ⟨"CoinSorterModel", "layPayouts", "(I)V"⟩ ∈ gd_L := gd_at 81 (by decide +kernel) (by decide +kernel)
theorem gw_82 : Cond.selects "CoinSorterModel" ⟨"CoinSorterModel", "coinValue", "(I)I"⟩ ⟨"CoinSorterModel", "coinValue", "(I)I"⟩ ∈ gd_L := gd_at 82 (by decide +kernel) (by decide +kernel)
theorem gw_83 : Cond.selects "CoinSorterModel" ⟨"CoinSorterModel", "fewestAt", "(II)I"⟩ ⟨"CoinSorterModel", "fewestAt", "(II)I"⟩ ∈ gd_L := gd_at 83 (by decide +kernel) (by decide +kernel)
theorem gw_84 : Cond.selects "CoinSorterModel" ⟨"CoinSorterModel", "costWith", "(I)I"⟩ ⟨"CoinSorterModel", "costWith", "(I)I"⟩ ∈ gd_L := gd_at 84 (by decide +kernel) (by decide +kernel)
theorem gw_85 : Cond.selects "CoinSorterModel" ⟨"CoinSorterModel", "sampleVerdict", "(II)I"⟩ ⟨"CoinSorterModel", "sampleVerdict", "(II)I"⟩ ∈ gd_L := gd_at 85 (by decide +kernel) (by decide +kernel)
theorem gw_86 : Cond.selects "CoinSorterModel" ⟨"CoinSorterModel", "keep", "()V"⟩ ⟨"CoinSorterModel", "keep", "()V"⟩ ∈ gd_L := gd_at 86 (by decide +kernel) (by decide +kernel)
theorem gw_87 : Cond.selects "CoinSorterModel" ⟨"CoinSorterModel", "isStep", "(I)Z"⟩ ⟨"CoinSorterModel", "isStep", "(I)Z"⟩ ∈ gd_L := gd_at 87 (by decide +kernel) (by decide +kernel)
theorem gw_88 : Cond.selects "CoinSorterModel" ⟨"CoinSorterModel", "doStep", "(I)V"⟩ ⟨"CoinSorterModel", "doStep", "(I)V"⟩ ∈ gd_L := gd_at 88 (by decide +kernel) (by decide +kernel)
theorem gw_89 : Cond.selects "CoinSorterModel" ⟨"CoinSorterModel", "takeFromLoop", "(I)V"⟩ ⟨"CoinSorterModel", "takeFromLoop", "(I)V"⟩ ∈ gd_L := gd_at 89 (by decide +kernel) (by decide +kernel)
theorem gw_90 : Cond.selects "CoinSorterModel" ⟨"CoinSorterModel", "note", "(I)V"⟩ ⟨"CoinSorterModel", "note", "(I)V"⟩ ∈ gd_L := gd_at 90 (by decide +kernel) (by decide +kernel)
theorem gw_91 : Cond.selects "CoinSorterModel" ⟨"CoinSorterModel", "takeFromHopper", "()V"⟩ ⟨"CoinSorterModel", "takeFromHopper", "()V"⟩ ∈ gd_L := gd_at 91 (by decide +kernel) (by decide +kernel)
theorem gw_93 : Cond.initialized "CoinSorter" ∈ gd_L := gd_at 93 (by decide +kernel) (by decide +kernel)
theorem gw_94 : Cond.initialized "CoinSorter$Parser" ∈ gd_L := gd_at 94 (by decide +kernel) (by decide +kernel)
theorem gw_95 : Cond.initialized "CoinSorter$Config" ∈ gd_L := gd_at 95 (by decide +kernel) (by decide +kernel)
theorem gw_96 : Cond.initialized "CoinSorter$Kinds" ∈ gd_L := gd_at 96 (by decide +kernel) (by decide +kernel)
theorem gw_97 : Cond.initialized "CoinSorter$Row" ∈ gd_L := gd_at 97 (by decide +kernel) (by decide +kernel)
theorem gw_98 : Cond.initialized "java/lang/Math" ∈ gd_L := gd_at 98 (by decide +kernel) (by decide +kernel)
theorem gw_99 : Cond.initialized "CoinSorter$State" ∈ gd_L := gd_at 99 (by decide +kernel) (by decide +kernel)
theorem gw_100 : Cond.initialized "java/util/Arrays" ∈ gd_L := gd_at 100 (by decide +kernel) (by decide +kernel)
theorem gw_107 : Cond.initialized "java/lang/String" ∈ gd_L := gd_at 107 (by decide +kernel) (by decide +kernel)
theorem gw_110 : Cond.initialized "java/lang/System" ∈ gd_L := gd_at 110 (by decide +kernel) (by decide +kernel)
theorem gw_111 : Cond.initialized "jdk/internal/util/Preconditions" ∈ gd_L := gd_at 111 (by decide +kernel) (by decide +kernel)
theorem gw_112 : Cond.initialized "java/lang/StringLatin1" ∈ gd_L := gd_at 112 (by decide +kernel) (by decide +kernel)
theorem gw_117 : Cond.initialized "CoinSorter$History" ∈ gd_L := gd_at 117 (by decide +kernel) (by decide +kernel)
theorem gw_118 : Cond.initialized "CoinSorter$Judge" ∈ gd_L := gd_at 118 (by decide +kernel) (by decide +kernel)
theorem gw_119 : Cond.initialized "CoinSorter$Payout" ∈ gd_L := gd_at 119 (by decide +kernel) (by decide +kernel)
theorem gw_120 : Cond.initialized "CoinSorter$Tuning" ∈ gd_L := gd_at 120 (by decide +kernel) (by decide +kernel)
theorem gw_121 : Cond.initialized "CoinSorterModel" ∈ gd_L := gd_at 121 (by decide +kernel) (by decide +kernel)
theorem gw_128 : Cond.methodLink "CoinSorter" 1 ⟨"java/lang/Object", "<init>", "()V"⟩ ∈ gd_L := gd_at 128 (by decide +kernel) (by decide +kernel)
theorem gw_129 : Cond.instanceMethod ⟨"java/lang/Object", "<init>", "()V"⟩ ∈ gd_L := gd_at 129 (by decide +kernel) (by decide +kernel)
theorem gw_130 : Cond.code ⟨"java/lang/Object", "<init>", "()V"⟩ object_method_1_code 1 none ∈ gd_L := gd_at 130 (by decide +kernel) (by decide +kernel)
theorem gw_131 : Cond.classLink "CoinSorter" 13 "CoinSorter$Parser" ∈ gd_L := gd_at 131 (by decide +kernel) (by decide +kernel)
theorem gw_132 : Cond.instantiable "CoinSorter$Parser" 9 ∈ gd_L := gd_at 132 (by decide +kernel) (by decide +kernel)
theorem gw_134 : Cond.instanceMethod ⟨"CoinSorter$Parser", "<init>", "()V"⟩ ∈ gd_L := gd_at 134 (by decide +kernel) (by decide +kernel)
theorem gw_135 : Cond.code ⟨"CoinSorter$Parser", "<init>", "()V"⟩ prog_6_method_1_code 1 none ∈ gd_L := gd_at 135 (by decide +kernel) (by decide +kernel)
theorem gw_136 : Cond.methodLink "CoinSorter$Parser" 3 ⟨"java/lang/Object", "<init>", "()V"⟩ ∈ gd_L := gd_at 136 (by decide +kernel) (by decide +kernel)
theorem gw_137 : Cond.fieldLink "CoinSorter$Parser" 9 "CoinSorter$Parser" "text" "[B" ∈ gd_L := gd_at 137 (by decide +kernel) (by decide +kernel)
theorem gw_138 : Cond.fieldLink "CoinSorter$Parser" 15 "CoinSorter$Parser" "length" "I" ∈ gd_L := gd_at 138 (by decide +kernel) (by decide +kernel)
theorem gw_139 : Cond.fieldLink "CoinSorter$Parser" 38 "CoinSorter$Parser" "token" "I" ∈ gd_L := gd_at 139 (by decide +kernel) (by decide +kernel)
theorem gw_140 : Cond.fieldLink "CoinSorter$Parser" 133 "CoinSorter$Parser" "start" "I" ∈ gd_L := gd_at 140 (by decide +kernel) (by decide +kernel)
theorem gw_141 : Cond.fieldLink "CoinSorter$Parser" 19 "CoinSorter$Parser" "end" "I" ∈ gd_L := gd_at 141 (by decide +kernel) (by decide +kernel)
theorem gw_142 : Cond.fieldLink "CoinSorter$Parser" 22 "CoinSorter$Parser" "error" "I" ∈ gd_L := gd_at 142 (by decide +kernel) (by decide +kernel)
theorem gw_144 : Cond.fieldLink "CoinSorter$Parser" 25 "CoinSorter$Parser" "gateIsRead" "Z" ∈ gd_L := gd_at 144 (by decide +kernel) (by decide +kernel)
theorem gw_145 : Cond.fieldLink "CoinSorter$Parser" 29 "CoinSorter$Parser" "loopIsRead" "Z" ∈ gd_L := gd_at 145 (by decide +kernel) (by decide +kernel)
theorem gw_146 : Cond.fieldLink "CoinSorter$Parser" 32 "CoinSorter$Parser" "marginIsRead" "Z" ∈ gd_L := gd_at 146 (by decide +kernel) (by decide +kernel)
theorem gw_166 : Cond.arrayClass .byte ∈ gd_L := gd_at 166 (by decide +kernel) (by decide +kernel)
theorem gw_167 : Cond.classLink "CoinSorter" 20 "CoinSorter$Config" ∈ gd_L := gd_at 167 (by decide +kernel) (by decide +kernel)
theorem gw_168 : Cond.instantiable "CoinSorter$Config" 7 ∈ gd_L := gd_at 168 (by decide +kernel) (by decide +kernel)
theorem gw_170 : Cond.instanceMethod ⟨"CoinSorter$Config", "<init>", "()V"⟩ ∈ gd_L := gd_at 170 (by decide +kernel) (by decide +kernel)
theorem gw_171 : Cond.code ⟨"CoinSorter$Config", "<init>", "()V"⟩ prog_2_method_1_code 1 none ∈ gd_L := gd_at 171 (by decide +kernel) (by decide +kernel)
theorem gw_172 : Cond.methodLink "CoinSorter$Config" 3 ⟨"java/lang/Object", "<init>", "()V"⟩ ∈ gd_L := gd_at 172 (by decide +kernel) (by decide +kernel)
theorem gw_173 : Cond.classLink "CoinSorter$Config" 9 "CoinSorter$Kinds" ∈ gd_L := gd_at 173 (by decide +kernel) (by decide +kernel)
theorem gw_174 : Cond.instantiable "CoinSorter$Kinds" 5 ∈ gd_L := gd_at 174 (by decide +kernel) (by decide +kernel)
theorem gw_176 : Cond.instanceMethod ⟨"CoinSorter$Kinds", "<init>", "(I)V"⟩ ∈ gd_L := gd_at 176 (by decide +kernel) (by decide +kernel)
theorem gw_177 : Cond.code ⟨"CoinSorter$Kinds", "<init>", "(I)V"⟩ prog_5_method_1_code 2 none ∈ gd_L := gd_at 177 (by decide +kernel) (by decide +kernel)
theorem gw_178 : Cond.methodLink "CoinSorter$Kinds" 3 ⟨"java/lang/Object", "<init>", "()V"⟩ ∈ gd_L := gd_at 178 (by decide +kernel) (by decide +kernel)
theorem gw_179 : Cond.classLink "CoinSorter$Kinds" 9 "CoinSorter$Row" ∈ gd_L := gd_at 179 (by decide +kernel) (by decide +kernel)
theorem gw_180 : Cond.instantiable "CoinSorter$Row" 2 ∈ gd_L := gd_at 180 (by decide +kernel) (by decide +kernel)
theorem gw_182 : Cond.instanceMethod ⟨"CoinSorter$Row", "<init>", "(I)V"⟩ ∈ gd_L := gd_at 182 (by decide +kernel) (by decide +kernel)
theorem gw_183 : Cond.code ⟨"CoinSorter$Row", "<init>", "(I)V"⟩ prog_8_method_1_code 2 none ∈ gd_L := gd_at 183 (by decide +kernel) (by decide +kernel)
theorem gw_184 : Cond.methodLink "CoinSorter$Row" 3 ⟨"java/lang/Object", "<init>", "()V"⟩ ∈ gd_L := gd_at 184 (by decide +kernel) (by decide +kernel)
theorem gw_185 : Cond.methodLink "CoinSorter$Row" 9 ⟨"java/lang/Math", "max", "(II)I"⟩ ∈ gd_L := gd_at 185 (by decide +kernel) (by decide +kernel)
theorem gw_186 : Cond.static ⟨"java/lang/Math", "max", "(II)I"⟩ ∈ gd_L := gd_at 186 (by decide +kernel) (by decide +kernel)
theorem gw_187 : Cond.code ⟨"java/lang/Math", "max", "(II)I"⟩ prog_21_method_65_code 2 (some .int) ∈ gd_L := gd_at 187 (by decide +kernel) (by decide +kernel)
theorem gw_188 : Cond.fieldLink "CoinSorter$Row" 15 "CoinSorter$Row" "items" "[I" ∈ gd_L := gd_at 188 (by decide +kernel) (by decide +kernel)
theorem gw_189 : Cond.fieldLink "CoinSorter$Row" 21 "CoinSorter$Row" "size" "I" ∈ gd_L := gd_at 189 (by decide +kernel) (by decide +kernel)
theorem gw_200 : Cond.arrayClass .int ∈ gd_L := gd_at 200 (by decide +kernel) (by decide +kernel)
theorem gw_201 : Cond.fieldLink "CoinSorter$Kinds" 14 "CoinSorter$Kinds" "values" "LCoinSorter$Row;" ∈ gd_L := gd_at 201 (by decide +kernel) (by decide +kernel)
theorem gw_204 : Cond.fieldLink "CoinSorter$Kinds" 20 "CoinSorter$Kinds" "diameters" "LCoinSorter$Row;" ∈ gd_L := gd_at 204 (by decide +kernel) (by decide +kernel)
theorem gw_207 : Cond.fieldLink "CoinSorter$Kinds" 23 "CoinSorter$Kinds" "diameterTolerances" "LCoinSorter$Row;" ∈ gd_L := gd_at 207 (by decide +kernel) (by decide +kernel)
theorem gw_209 : Cond.fieldLink "CoinSorter$Kinds" 26 "CoinSorter$Kinds" "alloys" "LCoinSorter$Row;" ∈ gd_L := gd_at 209 (by decide +kernel) (by decide +kernel)
theorem gw_212 : Cond.fieldLink "CoinSorter$Kinds" 29 "CoinSorter$Kinds" "alloyTolerances" "LCoinSorter$Row;" ∈ gd_L := gd_at 212 (by decide +kernel) (by decide +kernel)
theorem gw_225 : Cond.classLink "CoinSorter$Config" 23 "CoinSorter$Row" ∈ gd_L := gd_at 225 (by decide +kernel) (by decide +kernel)
theorem gw_227 : Cond.fieldLink "CoinSorter$Config" 14 "CoinSorter$Config" "types" "LCoinSorter$Kinds;" ∈ gd_L := gd_at 227 (by decide +kernel) (by decide +kernel)
theorem gw_231 : Cond.fieldLink "CoinSorter$Config" 20 "CoinSorter$Config" "fakes" "LCoinSorter$Kinds;" ∈ gd_L := gd_at 231 (by decide +kernel) (by decide +kernel)
theorem gw_235 : Cond.fieldLink "CoinSorter$Config" 26 "CoinSorter$Config" "binTypes" "LCoinSorter$Row;" ∈ gd_L := gd_at 235 (by decide +kernel) (by decide +kernel)
theorem gw_240 : Cond.fieldLink "CoinSorter$Config" 30 "CoinSorter$Config" "binSizes" "LCoinSorter$Row;" ∈ gd_L := gd_at 240 (by decide +kernel) (by decide +kernel)
theorem gw_243 : Cond.fieldLink "CoinSorter$Config" 33 "CoinSorter$Config" "gate" "I" ∈ gd_L := gd_at 243 (by decide +kernel) (by decide +kernel)
theorem gw_246 : Cond.fieldLink "CoinSorter$Config" 37 "CoinSorter$Config" "loopCapacity" "I" ∈ gd_L := gd_at 246 (by decide +kernel) (by decide +kernel)
theorem gw_249 : Cond.fieldLink "CoinSorter$Config" 40 "CoinSorter$Config" "margin" "I" ∈ gd_L := gd_at 249 (by decide +kernel) (by decide +kernel)
theorem gw_267 : Cond.classLink "CoinSorter" 30 "CoinSorter$State" ∈ gd_L := gd_at 267 (by decide +kernel) (by decide +kernel)
theorem gw_268 : Cond.instantiable "CoinSorter$State" 15 ∈ gd_L := gd_at 268 (by decide +kernel) (by decide +kernel)
theorem gw_270 : Cond.instanceMethod ⟨"CoinSorter$State", "<init>", "()V"⟩ ∈ gd_L := gd_at 270 (by decide +kernel) (by decide +kernel)
theorem gw_271 : Cond.code ⟨"CoinSorter$State", "<init>", "()V"⟩ prog_9_method_1_code 1 none ∈ gd_L := gd_at 271 (by decide +kernel) (by decide +kernel)
theorem gw_272 : Cond.methodLink "CoinSorter$State" 3 ⟨"java/lang/Object", "<init>", "()V"⟩ ∈ gd_L := gd_at 272 (by decide +kernel) (by decide +kernel)
theorem gw_273 : Cond.classLink "CoinSorter$State" 15 "CoinSorter$Row" ∈ gd_L := gd_at 273 (by decide +kernel) (by decide +kernel)
theorem gw_277 : Cond.instanceMethod ⟨"CoinSorter$Row", "fillWithZeros", "(I)V"⟩ ∈ gd_L := gd_at 277 (by decide +kernel) (by decide +kernel)
theorem gw_278 : Cond.code ⟨"CoinSorter$Row", "fillWithZeros", "(I)V"⟩ prog_8_method_10_code 2 none ∈ gd_L := gd_at 278 (by decide +kernel) (by decide +kernel)
theorem gw_279 : Cond.methodLink "CoinSorter$Row" 29 ⟨"java/lang/Math", "min", "(II)I"⟩ ∈ gd_L := gd_at 279 (by decide +kernel) (by decide +kernel)
theorem gw_280 : Cond.static ⟨"java/lang/Math", "min", "(II)I"⟩ ∈ gd_L := gd_at 280 (by decide +kernel) (by decide +kernel)
theorem gw_281 : Cond.code ⟨"java/lang/Math", "min", "(II)I"⟩ prog_21_method_69_code 2 (some .int) ∈ gd_L := gd_at 281 (by decide +kernel) (by decide +kernel)
theorem gw_282 : Cond.methodLink "CoinSorter$Row" 32 ⟨"java/util/Arrays", "fill", "([IIII)V"⟩ ∈ gd_L := gd_at 282 (by decide +kernel) (by decide +kernel)
theorem gw_283 : Cond.static ⟨"java/util/Arrays", "fill", "([IIII)V"⟩ ∈ gd_L := gd_at 283 (by decide +kernel) (by decide +kernel)
theorem gw_284 : Cond.code ⟨"java/util/Arrays", "fill", "([IIII)V"⟩ prog_30_method_104_code 5 none ∈ gd_L := gd_at 284 (by decide +kernel) (by decide +kernel)
theorem gw_285 : Cond.methodLink "java/util/Arrays" 13 ⟨"java/util/Arrays", "rangeCheck", "(III)V"⟩ ∈ gd_L := gd_at 285 (by decide +kernel) (by decide +kernel)
theorem gw_286 : Cond.static ⟨"java/util/Arrays", "rangeCheck", "(III)V"⟩ ∈ gd_L := gd_at 286 (by decide +kernel) (by decide +kernel)
theorem gw_287 : Cond.code ⟨"java/util/Arrays", "rangeCheck", "(III)V"⟩ prog_30_method_30_code 3 none ∈ gd_L := gd_at 287 (by decide +kernel) (by decide +kernel)
theorem gw_402 : Cond.static ⟨"java/lang/System", "arraycopy", "(Ljava/lang/Object;ILjava/lang/Object;II)V"⟩ ∈ gd_L := gd_at 402 (by decide +kernel) (by decide +kernel)
theorem gw_403 : Cond.native ⟨"java/lang/System", "arraycopy", "(Ljava/lang/Object;ILjava/lang/Object;II)V"⟩ ∈ gd_L := gd_at 403 (by decide +kernel) (by decide +kernel)
theorem gw_421 : Cond.fieldLink "java/lang/String" 1053 "jdk/internal/util/Preconditions" "SIOOBE_FORMATTER" "Ljava/util/function/BiFunction;" ∈ gd_L := gd_at 421 (by decide +kernel) (by decide +kernel)
theorem gw_436 : Cond.instanceMethod ⟨"java/lang/String", "length", "()I"⟩ ∈ gd_L := gd_at 436 (by decide +kernel) (by decide +kernel)
theorem gw_437 : Cond.selects "java/lang/String" ⟨"java/lang/String", "length", "()I"⟩ ⟨"java/lang/String", "length", "()I"⟩ ∈ gd_L := gd_at 437 (by decide +kernel) (by decide +kernel)
theorem gw_438 : Cond.code ⟨"java/lang/String", "length", "()I"⟩ prog_24_method_54_code 1 (some .int) ∈ gd_L := gd_at 438 (by decide +kernel) (by decide +kernel)
theorem gw_439 : Cond.methodLink "java/lang/String" 335 ⟨"java/lang/String", "coder", "()B"⟩ ∈ gd_L := gd_at 439 (by decide +kernel) (by decide +kernel)
theorem gw_440 : Cond.instanceMethod ⟨"java/lang/String", "coder", "()B"⟩ ∈ gd_L := gd_at 440 (by decide +kernel) (by decide +kernel)
theorem gw_441 : Cond.selects "java/lang/String" ⟨"java/lang/String", "coder", "()B"⟩ ⟨"java/lang/String", "coder", "()B"⟩ ∈ gd_L := gd_at 441 (by decide +kernel) (by decide +kernel)
theorem gw_442 : Cond.code ⟨"java/lang/String", "coder", "()B"⟩ prog_24_method_152_code 1 (some .byte) ∈ gd_L := gd_at 442 (by decide +kernel) (by decide +kernel)
theorem gw_443 : Cond.fieldLink "java/lang/String" 38 "java/lang/String" "COMPACT_STRINGS" "Z" ∈ gd_L := gd_at 443 (by decide +kernel) (by decide +kernel)
theorem gw_580 : Cond.fieldLink "java/lang/String" 9 "java/lang/String" "value" "[B" ∈ gd_L := gd_at 580 (by decide +kernel) (by decide +kernel)
theorem gw_581 : Cond.fieldLink "java/lang/String" 15 "java/lang/String" "coder" "B" ∈ gd_L := gd_at 581 (by decide +kernel) (by decide +kernel)
theorem gw_617 : Cond.fieldLink "CoinSorter$State" 54 "CoinSorter$State" "diameterOffset" "I" ∈ gd_L := gd_at 617 (by decide +kernel) (by decide +kernel)
theorem gw_619 : Cond.fieldLink "CoinSorter$State" 57 "CoinSorter$State" "alloyOffset" "I" ∈ gd_L := gd_at 619 (by decide +kernel) (by decide +kernel)
theorem gw_621 : Cond.fieldLink "CoinSorter$State" 9 "CoinSorter$State" "margin" "I" ∈ gd_L := gd_at 621 (by decide +kernel) (by decide +kernel)
theorem gw_623 : Cond.fieldLink "CoinSorter$State" 63 "CoinSorter$State" "jammed" "Z" ∈ gd_L := gd_at 623 (by decide +kernel) (by decide +kernel)
theorem gw_625 : Cond.fieldLink "CoinSorter$State" 67 "CoinSorter$State" "stepCount" "I" ∈ gd_L := gd_at 625 (by decide +kernel) (by decide +kernel)
theorem gw_627 : Cond.fieldLink "CoinSorter$State" 20 "CoinSorter$State" "hopper" "LCoinSorter$Row;" ∈ gd_L := gd_at 627 (by decide +kernel) (by decide +kernel)
theorem gw_629 : Cond.fieldLink "CoinSorter$State" 24 "CoinSorter$State" "loop" "LCoinSorter$Row;" ∈ gd_L := gd_at 629 (by decide +kernel) (by decide +kernel)
theorem gw_631 : Cond.fieldLink "CoinSorter$State" 27 "CoinSorter$State" "binCoins" "LCoinSorter$Row;" ∈ gd_L := gd_at 631 (by decide +kernel) (by decide +kernel)
theorem gw_633 : Cond.fieldLink "CoinSorter$State" 30 "CoinSorter$State" "rejected" "LCoinSorter$Row;" ∈ gd_L := gd_at 633 (by decide +kernel) (by decide +kernel)
theorem gw_635 : Cond.fieldLink "CoinSorter$State" 36 "CoinSorter$State" "records" "LCoinSorter$Row;" ∈ gd_L := gd_at 635 (by decide +kernel) (by decide +kernel)
theorem gw_637 : Cond.fieldLink "CoinSorter$State" 39 "CoinSorter$State" "bagTypes" "LCoinSorter$Row;" ∈ gd_L := gd_at 637 (by decide +kernel) (by decide +kernel)
theorem gw_639 : Cond.fieldLink "CoinSorter$State" 42 "CoinSorter$State" "bagCoins" "LCoinSorter$Row;" ∈ gd_L := gd_at 639 (by decide +kernel) (by decide +kernel)
theorem gw_641 : Cond.fieldLink "CoinSorter$State" 45 "CoinSorter$State" "bagAudits" "LCoinSorter$Row;" ∈ gd_L := gd_at 641 (by decide +kernel) (by decide +kernel)
theorem gw_643 : Cond.fieldLink "CoinSorter$State" 48 "CoinSorter$State" "sampleCoins" "LCoinSorter$Row;" ∈ gd_L := gd_at 643 (by decide +kernel) (by decide +kernel)
theorem gw_645 : Cond.fieldLink "CoinSorter$State" 51 "CoinSorter$State" "sampleLabels" "LCoinSorter$Row;" ∈ gd_L := gd_at 645 (by decide +kernel) (by decide +kernel)
theorem gw_678 : Cond.classLink "CoinSorter" 37 "CoinSorter$History" ∈ gd_L := gd_at 678 (by decide +kernel) (by decide +kernel)
theorem gw_679 : Cond.instantiable "CoinSorter$History" 3 ∈ gd_L := gd_at 679 (by decide +kernel) (by decide +kernel)
theorem gw_681 : Cond.instanceMethod ⟨"CoinSorter$History", "<init>", "()V"⟩ ∈ gd_L := gd_at 681 (by decide +kernel) (by decide +kernel)
theorem gw_682 : Cond.code ⟨"CoinSorter$History", "<init>", "()V"⟩ prog_3_method_1_code 2 none ∈ gd_L := gd_at 682 (by decide +kernel) (by decide +kernel)
theorem gw_683 : Cond.methodLink "CoinSorter$History" 3 ⟨"java/lang/Object", "<init>", "()V"⟩ ∈ gd_L := gd_at 683 (by decide +kernel) (by decide +kernel)
theorem gw_684 : Cond.classLink "CoinSorter$History" 9 "CoinSorter$State" ∈ gd_L := gd_at 684 (by decide +kernel) (by decide +kernel)
theorem gw_687 : Cond.fieldLink "CoinSorter$History" 11 "CoinSorter$History" "states" "[LCoinSorter$State;" ∈ gd_L := gd_at 687 (by decide +kernel) (by decide +kernel)
theorem gw_688 : Cond.fieldLink "CoinSorter$History" 18 "CoinSorter$History" "oldest" "I" ∈ gd_L := gd_at 688 (by decide +kernel) (by decide +kernel)
theorem gw_689 : Cond.fieldLink "CoinSorter$History" 22 "CoinSorter$History" "count" "I" ∈ gd_L := gd_at 689 (by decide +kernel) (by decide +kernel)
theorem gw_698 : Cond.classLink "CoinSorter" 52 "CoinSorter$Judge" ∈ gd_L := gd_at 698 (by decide +kernel) (by decide +kernel)
theorem gw_699 : Cond.instantiable "CoinSorter$Judge" 2 ∈ gd_L := gd_at 699 (by decide +kernel) (by decide +kernel)
theorem gw_701 : Cond.instanceMethod ⟨"CoinSorter$Judge", "<init>", "()V"⟩ ∈ gd_L := gd_at 701 (by decide +kernel) (by decide +kernel)
theorem gw_702 : Cond.code ⟨"CoinSorter$Judge", "<init>", "()V"⟩ prog_4_method_1_code 1 none ∈ gd_L := gd_at 702 (by decide +kernel) (by decide +kernel)
theorem gw_703 : Cond.methodLink "CoinSorter$Judge" 3 ⟨"java/lang/Object", "<init>", "()V"⟩ ∈ gd_L := gd_at 703 (by decide +kernel) (by decide +kernel)
theorem gw_704 : Cond.fieldLink "CoinSorter$Judge" 35 "CoinSorter$Judge" "sure" "I" ∈ gd_L := gd_at 704 (by decide +kernel) (by decide +kernel)
theorem gw_705 : Cond.fieldLink "CoinSorter$Judge" 41 "CoinSorter$Judge" "gap" "I" ∈ gd_L := gd_at 705 (by decide +kernel) (by decide +kernel)
theorem gw_712 : Cond.arrayClass .boolean ∈ gd_L := gd_at 712 (by decide +kernel) (by decide +kernel)
theorem gw_713 : Cond.classLink "CoinSorter" 59 "CoinSorter$Payout" ∈ gd_L := gd_at 713 (by decide +kernel) (by decide +kernel)
theorem gw_714 : Cond.instantiable "CoinSorter$Payout" 5 ∈ gd_L := gd_at 714 (by decide +kernel) (by decide +kernel)
theorem gw_716 : Cond.instanceMethod ⟨"CoinSorter$Payout", "<init>", "()V"⟩ ∈ gd_L := gd_at 716 (by decide +kernel) (by decide +kernel)
theorem gw_717 : Cond.code ⟨"CoinSorter$Payout", "<init>", "()V"⟩ prog_7_method_1_code 1 none ∈ gd_L := gd_at 717 (by decide +kernel) (by decide +kernel)
theorem gw_718 : Cond.methodLink "CoinSorter$Payout" 3 ⟨"java/lang/Object", "<init>", "()V"⟩ ∈ gd_L := gd_at 718 (by decide +kernel) (by decide +kernel)
theorem gw_719 : Cond.classLink "CoinSorter$Payout" 22 "CoinSorter$Row" ∈ gd_L := gd_at 719 (by decide +kernel) (by decide +kernel)
theorem gw_721 : Cond.fieldLink "CoinSorter$Payout" 9 "CoinSorter$Payout" "stock" "[I" ∈ gd_L := gd_at 721 (by decide +kernel) (by decide +kernel)
theorem gw_722 : Cond.fieldLink "CoinSorter$Payout" 15 "CoinSorter$Payout" "places" "[J" ∈ gd_L := gd_at 722 (by decide +kernel) (by decide +kernel)
theorem gw_723 : Cond.fieldLink "CoinSorter$Payout" 19 "CoinSorter$Payout" "weights" "[J" ∈ gd_L := gd_at 723 (by decide +kernel) (by decide +kernel)
theorem gw_724 : Cond.fieldLink "CoinSorter$Payout" 50 "CoinSorter$Payout" "whole" "J" ∈ gd_L := gd_at 724 (by decide +kernel) (by decide +kernel)
theorem gw_725 : Cond.fieldLink "CoinSorter$Payout" 27 "CoinSorter$Payout" "coins" "LCoinSorter$Row;" ∈ gd_L := gd_at 725 (by decide +kernel) (by decide +kernel)
theorem gw_738 : Cond.arrayClass .long ∈ gd_L := gd_at 738 (by decide +kernel) (by decide +kernel)
theorem gw_739 : Cond.classLink "CoinSorter" 66 "CoinSorter$Tuning" ∈ gd_L := gd_at 739 (by decide +kernel) (by decide +kernel)
theorem gw_740 : Cond.instantiable "CoinSorter$Tuning" 2 ∈ gd_L := gd_at 740 (by decide +kernel) (by decide +kernel)
theorem gw_742 : Cond.instanceMethod ⟨"CoinSorter$Tuning", "<init>", "()V"⟩ ∈ gd_L := gd_at 742 (by decide +kernel) (by decide +kernel)
theorem gw_743 : Cond.code ⟨"CoinSorter$Tuning", "<init>", "()V"⟩ prog_10_method_1_code 1 none ∈ gd_L := gd_at 743 (by decide +kernel) (by decide +kernel)
theorem gw_744 : Cond.methodLink "CoinSorter$Tuning" 3 ⟨"java/lang/Object", "<init>", "()V"⟩ ∈ gd_L := gd_at 744 (by decide +kernel) (by decide +kernel)
theorem gw_745 : Cond.classLink "CoinSorter$Tuning" 9 "CoinSorter$Row" ∈ gd_L := gd_at 745 (by decide +kernel) (by decide +kernel)
theorem gw_747 : Cond.fieldLink "CoinSorter$Tuning" 14 "CoinSorter$Tuning" "gaps" "LCoinSorter$Row;" ∈ gd_L := gd_at 747 (by decide +kernel) (by decide +kernel)
theorem gw_748 : Cond.fieldLink "CoinSorter$Tuning" 20 "CoinSorter$Tuning" "rises" "LCoinSorter$Row;" ∈ gd_L := gd_at 748 (by decide +kernel) (by decide +kernel)
theorem gw_754 : Cond.fieldLink "CoinSorter" 9 "CoinSorter" "buffer" "[B" ∈ gd_L := gd_at 754 (by decide +kernel) (by decide +kernel)
theorem gw_755 : Cond.fieldLink "CoinSorter" 73 "CoinSorter" "bufferLength" "I" ∈ gd_L := gd_at 755 (by decide +kernel) (by decide +kernel)
theorem gw_756 : Cond.fieldLink "CoinSorter" 16 "CoinSorter" "parser" "LCoinSorter$Parser;" ∈ gd_L := gd_at 756 (by decide +kernel) (by decide +kernel)
theorem gw_757 : Cond.fieldLink "CoinSorter" 23 "CoinSorter" "config" "LCoinSorter$Config;" ∈ gd_L := gd_at 757 (by decide +kernel) (by decide +kernel)
theorem gw_758 : Cond.fieldLink "CoinSorter" 27 "CoinSorter" "spareConfig" "LCoinSorter$Config;" ∈ gd_L := gd_at 758 (by decide +kernel) (by decide +kernel)
theorem gw_759 : Cond.fieldLink "CoinSorter" 33 "CoinSorter" "state" "LCoinSorter$State;" ∈ gd_L := gd_at 759 (by decide +kernel) (by decide +kernel)
theorem gw_760 : Cond.fieldLink "CoinSorter" 40 "CoinSorter" "history" "LCoinSorter$History;" ∈ gd_L := gd_at 760 (by decide +kernel) (by decide +kernel)
theorem gw_761 : Cond.fieldLink "CoinSorter" 44 "CoinSorter" "slots" "[LCoinSorter$State;" ∈ gd_L := gd_at 761 (by decide +kernel) (by decide +kernel)
theorem gw_762 : Cond.fieldLink "CoinSorter" 48 "CoinSorter" "slotIsSaved" "[Z" ∈ gd_L := gd_at 762 (by decide +kernel) (by decide +kernel)
theorem gw_763 : Cond.fieldLink "CoinSorter" 55 "CoinSorter" "judge" "LCoinSorter$Judge;" ∈ gd_L := gd_at 763 (by decide +kernel) (by decide +kernel)
theorem gw_764 : Cond.fieldLink "CoinSorter" 62 "CoinSorter" "payout" "LCoinSorter$Payout;" ∈ gd_L := gd_at 764 (by decide +kernel) (by decide +kernel)
theorem gw_765 : Cond.fieldLink "CoinSorter" 69 "CoinSorter" "tuning" "LCoinSorter$Tuning;" ∈ gd_L := gd_at 765 (by decide +kernel) (by decide +kernel)
theorem gw_795 : Cond.methodLink "CoinSorter" 77 ⟨"CoinSorter", "appendWord", "(I)V"⟩ ∈ gd_L := gd_at 795 (by decide +kernel) (by decide +kernel)
theorem gw_797 : Cond.instanceMethod ⟨"CoinSorter", "appendWord", "(I)V"⟩ ∈ gd_L := gd_at 797 (by decide +kernel) (by decide +kernel)
theorem gw_798 : Cond.code ⟨"CoinSorter", "appendWord", "(I)V"⟩ prog_1_method_3_code 3 none ∈ gd_L := gd_at 798 (by decide +kernel) (by decide +kernel)
theorem gw_805 : Cond.instanceMethod ⟨"CoinSorter$Config", "reset", "()V"⟩ ∈ gd_L := gd_at 805 (by decide +kernel) (by decide +kernel)
theorem gw_806 : Cond.code ⟨"CoinSorter$Config", "reset", "()V"⟩ prog_2_method_2_code 1 none ∈ gd_L := gd_at 806 (by decide +kernel) (by decide +kernel)
theorem gw_809 : Cond.instanceMethod ⟨"CoinSorter$Kinds", "empty", "()V"⟩ ∈ gd_L := gd_at 809 (by decide +kernel) (by decide +kernel)
theorem gw_810 : Cond.code ⟨"CoinSorter$Kinds", "empty", "()V"⟩ prog_5_method_3_code 1 none ∈ gd_L := gd_at 810 (by decide +kernel) (by decide +kernel)
theorem gw_813 : Cond.instanceMethod ⟨"CoinSorter$Row", "empty", "()V"⟩ ∈ gd_L := gd_at 813 (by decide +kernel) (by decide +kernel)
theorem gw_814 : Cond.code ⟨"CoinSorter$Row", "empty", "()V"⟩ prog_8_method_9_code 1 none ∈ gd_L := gd_at 814 (by decide +kernel) (by decide +kernel)
theorem gw_818 : Cond.instanceMethod ⟨"CoinSorter$Parser", "begin", "([BI)V"⟩ ∈ gd_L := gd_at 818 (by decide +kernel) (by decide +kernel)
theorem gw_819 : Cond.code ⟨"CoinSorter$Parser", "begin", "([BI)V"⟩ prog_6_method_2_code 3 none ∈ gd_L := gd_at 819 (by decide +kernel) (by decide +kernel)
theorem gw_822 : Cond.instanceMethod ⟨"CoinSorter$Parser", "hasStatement", "()Z"⟩ ∈ gd_L := gd_at 822 (by decide +kernel) (by decide +kernel)
theorem gw_823 : Cond.code ⟨"CoinSorter$Parser", "hasStatement", "()Z"⟩ prog_6_method_3_code 1 (some .boolean) ∈ gd_L := gd_at 823 (by decide +kernel) (by decide +kernel)
theorem gw_824 : Cond.methodLink "CoinSorter$Parser" 35 ⟨"CoinSorter$Parser", "readToken", "()V"⟩ ∈ gd_L := gd_at 824 (by decide +kernel) (by decide +kernel)
theorem gw_826 : Cond.instanceMethod ⟨"CoinSorter$Parser", "readToken", "()V"⟩ ∈ gd_L := gd_at 826 (by decide +kernel) (by decide +kernel)
theorem gw_827 : Cond.code ⟨"CoinSorter$Parser", "readToken", "()V"⟩ prog_6_method_10_code 1 none ∈ gd_L := gd_at 827 (by decide +kernel) (by decide +kernel)
theorem gw_828 : Cond.methodLink "CoinSorter$Parser" 136 ⟨"CoinSorter$Parser", "endOfRun", "(II)I"⟩ ∈ gd_L := gd_at 828 (by decide +kernel) (by decide +kernel)
theorem gw_830 : Cond.instanceMethod ⟨"CoinSorter$Parser", "endOfRun", "(II)I"⟩ ∈ gd_L := gd_at 830 (by decide +kernel) (by decide +kernel)
theorem gw_831 : Cond.code ⟨"CoinSorter$Parser", "endOfRun", "(II)I"⟩ prog_6_method_11_code 4 (some .int) ∈ gd_L := gd_at 831 (by decide +kernel) (by decide +kernel)
theorem gw_832 : Cond.methodLink "CoinSorter$Parser" 139 ⟨"CoinSorter$Parser", "byteAt", "(I)I"⟩ ∈ gd_L := gd_at 832 (by decide +kernel) (by decide +kernel)
theorem gw_834 : Cond.instanceMethod ⟨"CoinSorter$Parser", "byteAt", "(I)I"⟩ ∈ gd_L := gd_at 834 (by decide +kernel) (by decide +kernel)
theorem gw_835 : Cond.code ⟨"CoinSorter$Parser", "byteAt", "(I)I"⟩ prog_6_method_12_code 2 (some .int) ∈ gd_L := gd_at 835 (by decide +kernel) (by decide +kernel)
theorem gw_836 : Cond.methodLink "CoinSorter$Parser" 143 ⟨"CoinSorter$Parser", "tokenOf", "(I)I"⟩ ∈ gd_L := gd_at 836 (by decide +kernel) (by decide +kernel)
theorem gw_837 : Cond.static ⟨"CoinSorter$Parser", "tokenOf", "(I)I"⟩ ∈ gd_L := gd_at 837 (by decide +kernel) (by decide +kernel)
theorem gw_838 : Cond.code ⟨"CoinSorter$Parser", "tokenOf", "(I)I"⟩ prog_6_method_13_code 1 (some .int) ∈ gd_L := gd_at 838 (by decide +kernel) (by decide +kernel)
theorem gw_841 : Cond.instanceMethod ⟨"CoinSorter$Parser", "readStatement", "(LCoinSorter$Config;)V"⟩ ∈ gd_L := gd_at 841 (by decide +kernel) (by decide +kernel)
theorem gw_842 : Cond.code ⟨"CoinSorter$Parser", "readStatement", "(LCoinSorter$Config;)V"⟩ prog_6_method_4_code 2 none ∈ gd_L := gd_at 842 (by decide +kernel) (by decide +kernel)
theorem gw_844 : Cond.methodLink "CoinSorter$Parser" 43 ⟨"CoinSorter$Parser", "isWord", "(Ljava/lang/String;)Z"⟩ ∈ gd_L := gd_at 844 (by decide +kernel) (by decide +kernel)
theorem gw_846 : Cond.instanceMethod ⟨"CoinSorter$Parser", "isWord", "(Ljava/lang/String;)Z"⟩ ∈ gd_L := gd_at 846 (by decide +kernel) (by decide +kernel)
theorem gw_847 : Cond.code ⟨"CoinSorter$Parser", "isWord", "(Ljava/lang/String;)Z"⟩ prog_6_method_14_code 3 (some .boolean) ∈ gd_L := gd_at 847 (by decide +kernel) (by decide +kernel)
theorem gw_848 : Cond.methodLink "CoinSorter$Parser" 146 ⟨"java/lang/String", "length", "()I"⟩ ∈ gd_L := gd_at 848 (by decide +kernel) (by decide +kernel)
theorem gw_849 : Cond.methodLink "CoinSorter$Parser" 150 ⟨"java/lang/String", "charAt", "(I)C"⟩ ∈ gd_L := gd_at 849 (by decide +kernel) (by decide +kernel)
theorem gw_850 : Cond.instanceMethod ⟨"java/lang/String", "charAt", "(I)C"⟩ ∈ gd_L := gd_at 850 (by decide +kernel) (by decide +kernel)
theorem gw_851 : Cond.selects "java/lang/String" ⟨"java/lang/String", "charAt", "(I)C"⟩ ⟨"java/lang/String", "charAt", "(I)C"⟩ ∈ gd_L := gd_at 851 (by decide +kernel) (by decide +kernel)
theorem gw_852 : Cond.code ⟨"java/lang/String", "charAt", "(I)C"⟩ prog_24_method_56_code 2 (some .char) ∈ gd_L := gd_at 852 (by decide +kernel) (by decide +kernel)
theorem gw_853 : Cond.methodLink "java/lang/String" 492 ⟨"java/lang/String", "isLatin1", "()Z"⟩ ∈ gd_L := gd_at 853 (by decide +kernel) (by decide +kernel)
theorem gw_854 : Cond.instanceMethod ⟨"java/lang/String", "isLatin1", "()Z"⟩ ∈ gd_L := gd_at 854 (by decide +kernel) (by decide +kernel)
theorem gw_855 : Cond.selects "java/lang/String" ⟨"java/lang/String", "isLatin1", "()Z"⟩ ⟨"java/lang/String", "isLatin1", "()Z"⟩ ∈ gd_L := gd_at 855 (by decide +kernel) (by decide +kernel)
theorem gw_856 : Cond.code ⟨"java/lang/String", "isLatin1", "()Z"⟩ prog_24_method_154_code 1 (some .boolean) ∈ gd_L := gd_at 856 (by decide +kernel) (by decide +kernel)
theorem gw_857 : Cond.methodLink "java/lang/String" 495 ⟨"java/lang/StringLatin1", "charAt", "([BI)C"⟩ ∈ gd_L := gd_at 857 (by decide +kernel) (by decide +kernel)
theorem gw_858 : Cond.static ⟨"java/lang/StringLatin1", "charAt", "([BI)C"⟩ ∈ gd_L := gd_at 858 (by decide +kernel) (by decide +kernel)
theorem gw_859 : Cond.code ⟨"java/lang/StringLatin1", "charAt", "([BI)C"⟩ prog_26_method_2_code 2 (some .char) ∈ gd_L := gd_at 859 (by decide +kernel) (by decide +kernel)
theorem gw_860 : Cond.methodLink "java/lang/StringLatin1" 9 ⟨"java/lang/String", "checkIndex", "(II)V"⟩ ∈ gd_L := gd_at 860 (by decide +kernel) (by decide +kernel)
theorem gw_861 : Cond.static ⟨"java/lang/String", "checkIndex", "(II)V"⟩ ∈ gd_L := gd_at 861 (by decide +kernel) (by decide +kernel)
theorem gw_862 : Cond.code ⟨"java/lang/String", "checkIndex", "(II)V"⟩ prog_24_method_155_code 2 none ∈ gd_L := gd_at 862 (by decide +kernel) (by decide +kernel)
theorem gw_863 : Cond.methodLink "java/lang/String" 1059 ⟨"jdk/internal/util/Preconditions", "checkIndex", "(IILjava/util/function/BiFunction;)I"⟩ ∈ gd_L := gd_at 863 (by decide +kernel) (by decide +kernel)
theorem gw_864 : Cond.static ⟨"jdk/internal/util/Preconditions", "checkIndex", "(IILjava/util/function/BiFunction;)I"⟩ ∈ gd_L := gd_at 864 (by decide +kernel) (by decide +kernel)
theorem gw_865 : Cond.code ⟨"jdk/internal/util/Preconditions", "checkIndex", "(IILjava/util/function/BiFunction;)I"⟩ prog_32_method_11_code 3 (some .int) ∈ gd_L := gd_at 865 (by decide +kernel) (by decide +kernel)
theorem gw_873 : Cond.methodLink "CoinSorter$Parser" 53 ⟨"CoinSorter$Parser", "readKind", "(LCoinSorter$Kinds;Z)V"⟩ ∈ gd_L := gd_at 873 (by decide +kernel) (by decide +kernel)
theorem gw_875 : Cond.instanceMethod ⟨"CoinSorter$Parser", "readKind", "(LCoinSorter$Kinds;Z)V"⟩ ∈ gd_L := gd_at 875 (by decide +kernel) (by decide +kernel)
theorem gw_876 : Cond.code ⟨"CoinSorter$Parser", "readKind", "(LCoinSorter$Kinds;Z)V"⟩ prog_6_method_5_code 3 none ∈ gd_L := gd_at 876 (by decide +kernel) (by decide +kernel)
theorem gw_879 : Cond.instanceMethod ⟨"CoinSorter$Row", "isFull", "()Z"⟩ ∈ gd_L := gd_at 879 (by decide +kernel) (by decide +kernel)
theorem gw_880 : Cond.code ⟨"CoinSorter$Row", "isFull", "()Z"⟩ prog_8_method_2_code 1 (some .boolean) ∈ gd_L := gd_at 880 (by decide +kernel) (by decide +kernel)
theorem gw_881 : Cond.methodLink "CoinSorter$Parser" 70 ⟨"CoinSorter$Parser", "failIf", "(ZI)V"⟩ ∈ gd_L := gd_at 881 (by decide +kernel) (by decide +kernel)
theorem gw_883 : Cond.instanceMethod ⟨"CoinSorter$Parser", "failIf", "(ZI)V"⟩ ∈ gd_L := gd_at 883 (by decide +kernel) (by decide +kernel)
theorem gw_884 : Cond.code ⟨"CoinSorter$Parser", "failIf", "(ZI)V"⟩ prog_6_method_9_code 3 none ∈ gd_L := gd_at 884 (by decide +kernel) (by decide +kernel)
theorem gw_885 : Cond.methodLink "CoinSorter$Parser" 74 ⟨"CoinSorter$Parser", "readNumber", "(II)I"⟩ ∈ gd_L := gd_at 885 (by decide +kernel) (by decide +kernel)
theorem gw_887 : Cond.instanceMethod ⟨"CoinSorter$Parser", "readNumber", "(II)I"⟩ ∈ gd_L := gd_at 887 (by decide +kernel) (by decide +kernel)
theorem gw_888 : Cond.code ⟨"CoinSorter$Parser", "readNumber", "(II)I"⟩ prog_6_method_7_code 4 (some .int) ∈ gd_L := gd_at 888 (by decide +kernel) (by decide +kernel)
theorem gw_889 : Cond.methodLink "CoinSorter$Parser" 130 ⟨"CoinSorter$Parser", "number", "()I"⟩ ∈ gd_L := gd_at 889 (by decide +kernel) (by decide +kernel)
theorem gw_891 : Cond.instanceMethod ⟨"CoinSorter$Parser", "number", "()I"⟩ ∈ gd_L := gd_at 891 (by decide +kernel) (by decide +kernel)
theorem gw_892 : Cond.code ⟨"CoinSorter$Parser", "number", "()I"⟩ prog_6_method_15_code 3 (some .int) ∈ gd_L := gd_at 892 (by decide +kernel) (by decide +kernel)
theorem gw_895 : Cond.instanceMethod ⟨"CoinSorter$Row", "add", "(I)V"⟩ ∈ gd_L := gd_at 895 (by decide +kernel) (by decide +kernel)
theorem gw_896 : Cond.code ⟨"CoinSorter$Row", "add", "(I)V"⟩ prog_8_method_7_code 2 none ∈ gd_L := gd_at 896 (by decide +kernel) (by decide +kernel)
theorem gw_899 : Cond.methodLink "CoinSorter$Parser" 64 ⟨"CoinSorter$Parser", "readBin", "(LCoinSorter$Config;)V"⟩ ∈ gd_L := gd_at 899 (by decide +kernel) (by decide +kernel)
theorem gw_901 : Cond.instanceMethod ⟨"CoinSorter$Parser", "readBin", "(LCoinSorter$Config;)V"⟩ ∈ gd_L := gd_at 901 (by decide +kernel) (by decide +kernel)
theorem gw_902 : Cond.code ⟨"CoinSorter$Parser", "readBin", "(LCoinSorter$Config;)V"⟩ prog_6_method_6_code 2 none ∈ gd_L := gd_at 902 (by decide +kernel) (by decide +kernel)
theorem gw_905 : Cond.instanceMethod ⟨"CoinSorter$Kinds", "count", "()I"⟩ ∈ gd_L := gd_at 905 (by decide +kernel) (by decide +kernel)
theorem gw_906 : Cond.code ⟨"CoinSorter$Kinds", "count", "()I"⟩ prog_5_method_2_code 1 (some .int) ∈ gd_L := gd_at 906 (by decide +kernel) (by decide +kernel)
theorem gw_910 : Cond.methodLink "CoinSorter$Parser" 89 ⟨"CoinSorter$Parser", "readSemicolon", "()V"⟩ ∈ gd_L := gd_at 910 (by decide +kernel) (by decide +kernel)
theorem gw_912 : Cond.instanceMethod ⟨"CoinSorter$Parser", "readSemicolon", "()V"⟩ ∈ gd_L := gd_at 912 (by decide +kernel) (by decide +kernel)
theorem gw_913 : Cond.code ⟨"CoinSorter$Parser", "readSemicolon", "()V"⟩ prog_6_method_8_code 1 none ∈ gd_L := gd_at 913 (by decide +kernel) (by decide +kernel)
theorem gw_914 : Cond.methodLink "CoinSorter" 99 ⟨"CoinSorter", "takeSpareConfig", "()V"⟩ ∈ gd_L := gd_at 914 (by decide +kernel) (by decide +kernel)
theorem gw_916 : Cond.instanceMethod ⟨"CoinSorter", "takeSpareConfig", "()V"⟩ ∈ gd_L := gd_at 916 (by decide +kernel) (by decide +kernel)
theorem gw_917 : Cond.code ⟨"CoinSorter", "takeSpareConfig", "()V"⟩ prog_1_method_5_code 3 none ∈ gd_L := gd_at 917 (by decide +kernel) (by decide +kernel)
theorem gw_920 : Cond.instanceMethod ⟨"CoinSorter$State", "reset", "(LCoinSorter$Config;)V"⟩ ∈ gd_L := gd_at 920 (by decide +kernel) (by decide +kernel)
theorem gw_921 : Cond.code ⟨"CoinSorter$State", "reset", "(LCoinSorter$Config;)V"⟩ prog_9_method_2_code 2 none ∈ gd_L := gd_at 921 (by decide +kernel) (by decide +kernel)
theorem gw_925 : Cond.instanceMethod ⟨"CoinSorter$History", "forget", "()V"⟩ ∈ gd_L := gd_at 925 (by decide +kernel) (by decide +kernel)
theorem gw_926 : Cond.code ⟨"CoinSorter$History", "forget", "()V"⟩ prog_3_method_4_code 1 none ∈ gd_L := gd_at 926 (by decide +kernel) (by decide +kernel)
theorem gw_946 : Cond.instanceMethod ⟨"CoinSorter$Row", "at", "(I)I"⟩ ∈ gd_L := gd_at 946 (by decide +kernel) (by decide +kernel)
theorem gw_947 : Cond.code ⟨"CoinSorter$Row", "at", "(I)I"⟩ prog_8_method_4_code 2 (some .int) ∈ gd_L := gd_at 947 (by decide +kernel) (by decide +kernel)
theorem gw_988 : Cond.methodLink "CoinSorter" 196 ⟨"CoinSorter", "nextOutcome", "()I"⟩ ∈ gd_L := gd_at 988 (by decide +kernel) (by decide +kernel)
theorem gw_990 : Cond.instanceMethod ⟨"CoinSorter", "nextOutcome", "()I"⟩ ∈ gd_L := gd_at 990 (by decide +kernel) (by decide +kernel)
theorem gw_991 : Cond.code ⟨"CoinSorter", "nextOutcome", "()I"⟩ prog_1_method_55_code 3 (some .int) ∈ gd_L := gd_at 991 (by decide +kernel) (by decide +kernel)
theorem gw_992 : Cond.methodLink "CoinSorter" 300 ⟨"CoinSorter", "nextInLoop", "()I"⟩ ∈ gd_L := gd_at 992 (by decide +kernel) (by decide +kernel)
theorem gw_994 : Cond.instanceMethod ⟨"CoinSorter", "nextInLoop", "()I"⟩ ∈ gd_L := gd_at 994 (by decide +kernel) (by decide +kernel)
theorem gw_995 : Cond.code ⟨"CoinSorter", "nextInLoop", "()I"⟩ prog_1_method_56_code 2 (some .int) ∈ gd_L := gd_at 995 (by decide +kernel) (by decide +kernel)
theorem gw_996 : Cond.methodLink "CoinSorter" 303 ⟨"CoinSorter", "binFor", "(I)I"⟩ ∈ gd_L := gd_at 996 (by decide +kernel) (by decide +kernel)
theorem gw_997 : Cond.instanceMethod ⟨"CoinSorter", "binFor", "(I)I"⟩ ∈ gd_L := gd_at 997 (by decide +kernel) (by decide +kernel)
theorem gw_998 : Cond.selects "CoinSorter" ⟨"CoinSorter", "binFor", "(I)I"⟩ ⟨"CoinSorter", "binFor", "(I)I"⟩ ∈ gd_L := gd_at 998 (by decide +kernel) (by decide +kernel)
theorem gw_999 : Cond.code ⟨"CoinSorter", "binFor", "(I)I"⟩ prog_1_method_27_code 6 (some .int) ∈ gd_L := gd_at 999 (by decide +kernel) (by decide +kernel)
theorem gw_1000 : Cond.methodLink "CoinSorter" 139 ⟨"CoinSorter", "isType", "(I)Z"⟩ ∈ gd_L := gd_at 1000 (by decide +kernel) (by decide +kernel)
theorem gw_1002 : Cond.instanceMethod ⟨"CoinSorter", "isType", "(I)Z"⟩ ∈ gd_L := gd_at 1002 (by decide +kernel) (by decide +kernel)
theorem gw_1003 : Cond.code ⟨"CoinSorter", "isType", "(I)Z"⟩ prog_1_method_15_code 2 (some .boolean) ∈ gd_L := gd_at 1003 (by decide +kernel) (by decide +kernel)
theorem gw_1006 : Cond.instanceMethod ⟨"CoinSorter$Row", "has", "(I)Z"⟩ ∈ gd_L := gd_at 1006 (by decide +kernel) (by decide +kernel)
theorem gw_1007 : Cond.code ⟨"CoinSorter$Row", "has", "(I)Z"⟩ prog_8_method_3_code 2 (some .boolean) ∈ gd_L := gd_at 1007 (by decide +kernel) (by decide +kernel)
theorem gw_1008 : Cond.methodLink "CoinSorter" 257 ⟨"CoinSorter", "diameterOf", "(I)I"⟩ ∈ gd_L := gd_at 1008 (by decide +kernel) (by decide +kernel)
theorem gw_1009 : Cond.static ⟨"CoinSorter", "diameterOf", "(I)I"⟩ ∈ gd_L := gd_at 1009 (by decide +kernel) (by decide +kernel)
theorem gw_1010 : Cond.code ⟨"CoinSorter", "diameterOf", "(I)I"⟩ prog_1_method_51_code 1 (some .int) ∈ gd_L := gd_at 1010 (by decide +kernel) (by decide +kernel)
theorem gw_1011 : Cond.methodLink "CoinSorter" 260 ⟨"CoinSorter", "alloyOf", "(I)I"⟩ ∈ gd_L := gd_at 1011 (by decide +kernel) (by decide +kernel)
theorem gw_1012 : Cond.static ⟨"CoinSorter", "alloyOf", "(I)I"⟩ ∈ gd_L := gd_at 1012 (by decide +kernel) (by decide +kernel)
theorem gw_1013 : Cond.code ⟨"CoinSorter", "alloyOf", "(I)I"⟩ prog_1_method_52_code 1 (some .int) ∈ gd_L := gd_at 1013 (by decide +kernel) (by decide +kernel)
theorem gw_1014 : Cond.methodLink "CoinSorter" 306 ⟨"CoinSorter", "outcomeOf", "(II)I"⟩ ∈ gd_L := gd_at 1014 (by decide +kernel) (by decide +kernel)
theorem gw_1016 : Cond.instanceMethod ⟨"CoinSorter", "outcomeOf", "(II)I"⟩ ∈ gd_L := gd_at 1016 (by decide +kernel) (by decide +kernel)
theorem gw_1017 : Cond.code ⟨"CoinSorter", "outcomeOf", "(II)I"⟩ prog_1_method_57_code 5 (some .int) ∈ gd_L := gd_at 1017 (by decide +kernel) (by decide +kernel)
theorem gw_1018 : Cond.methodLink "CoinSorter" 173 ⟨"CoinSorter", "verdict", "(III)I"⟩ ∈ gd_L := gd_at 1018 (by decide +kernel) (by decide +kernel)
theorem gw_1020 : Cond.instanceMethod ⟨"CoinSorter", "verdict", "(III)I"⟩ ∈ gd_L := gd_at 1020 (by decide +kernel) (by decide +kernel)
theorem gw_1021 : Cond.code ⟨"CoinSorter", "verdict", "(III)I"⟩ prog_1_method_14_code 4 (some .int) ∈ gd_L := gd_at 1021 (by decide +kernel) (by decide +kernel)
theorem gw_1024 : Cond.instanceMethod ⟨"CoinSorter$Judge", "examine", "(LCoinSorter$Config;II)V"⟩ ∈ gd_L := gd_at 1024 (by decide +kernel) (by decide +kernel)
theorem gw_1025 : Cond.code ⟨"CoinSorter$Judge", "examine", "(LCoinSorter$Config;II)V"⟩ prog_4_method_2_code 9 none ∈ gd_L := gd_at 1025 (by decide +kernel) (by decide +kernel)
theorem gw_1026 : Cond.constant "CoinSorter$Judge" 9 1000000 ∈ gd_L := gd_at 1026 (by decide +kernel) (by decide +kernel)
theorem gw_1030 : Cond.instanceMethod ⟨"CoinSorter$Kinds", "scoreOf", "(III)I"⟩ ∈ gd_L := gd_at 1030 (by decide +kernel) (by decide +kernel)
theorem gw_1031 : Cond.code ⟨"CoinSorter$Kinds", "scoreOf", "(III)I"⟩ prog_5_method_4_code 6 (some .int) ∈ gd_L := gd_at 1031 (by decide +kernel) (by decide +kernel)
theorem gw_1033 : Cond.methodLink "CoinSorter$Kinds" 43 ⟨"CoinSorter$Kinds", "deviation", "(III)I"⟩ ∈ gd_L := gd_at 1033 (by decide +kernel) (by decide +kernel)
theorem gw_1034 : Cond.static ⟨"CoinSorter$Kinds", "deviation", "(III)I"⟩ ∈ gd_L := gd_at 1034 (by decide +kernel) (by decide +kernel)
theorem gw_1035 : Cond.code ⟨"CoinSorter$Kinds", "deviation", "(III)I"⟩ prog_5_method_5_code 4 (some .int) ∈ gd_L := gd_at 1035 (by decide +kernel) (by decide +kernel)
theorem gw_1036 : Cond.constant "CoinSorter$Kinds" 47 1000000 ∈ gd_L := gd_at 1036 (by decide +kernel) (by decide +kernel)
theorem gw_1037 : Cond.methodLink "CoinSorter$Judge" 29 ⟨"java/lang/Math", "min", "(II)I"⟩ ∈ gd_L := gd_at 1037 (by decide +kernel) (by decide +kernel)
theorem gw_1040 : Cond.instanceMethod ⟨"CoinSorter$Judge", "verdictAt", "(I)I"⟩ ∈ gd_L := gd_at 1040 (by decide +kernel) (by decide +kernel)
theorem gw_1041 : Cond.code ⟨"CoinSorter$Judge", "verdictAt", "(I)I"⟩ prog_4_method_3_code 2 (some .int) ∈ gd_L := gd_at 1041 (by decide +kernel) (by decide +kernel)
theorem gw_1042 : Cond.methodLink "CoinSorter" 312 ⟨"CoinSorter", "hasBin", "(I)Z"⟩ ∈ gd_L := gd_at 1042 (by decide +kernel) (by decide +kernel)
theorem gw_1044 : Cond.instanceMethod ⟨"CoinSorter", "hasBin", "(I)Z"⟩ ∈ gd_L := gd_at 1044 (by decide +kernel) (by decide +kernel)
theorem gw_1045 : Cond.code ⟨"CoinSorter", "hasBin", "(I)Z"⟩ prog_1_method_58_code 3 (some .boolean) ∈ gd_L := gd_at 1045 (by decide +kernel) (by decide +kernel)
theorem gw_1055 : Cond.methodLink "CoinSorter" 205 ⟨"CoinSorter", "rejectIndex", "(I)I"⟩ ∈ gd_L := gd_at 1055 (by decide +kernel) (by decide +kernel)
theorem gw_1056 : Cond.static ⟨"CoinSorter", "rejectIndex", "(I)I"⟩ ∈ gd_L := gd_at 1056 (by decide +kernel) (by decide +kernel)
theorem gw_1057 : Cond.code ⟨"CoinSorter", "rejectIndex", "(I)I"⟩ prog_1_method_29_code 1 (some .int) ∈ gd_L := gd_at 1057 (by decide +kernel) (by decide +kernel)
theorem gw_1086 : Cond.methodLink "CoinSorter" 220 ⟨"CoinSorter", "discrepancyOf", "(I)I"⟩ ∈ gd_L := gd_at 1086 (by decide +kernel) (by decide +kernel)
theorem gw_1088 : Cond.instanceMethod ⟨"CoinSorter", "discrepancyOf", "(I)I"⟩ ∈ gd_L := gd_at 1088 (by decide +kernel) (by decide +kernel)
theorem gw_1089 : Cond.code ⟨"CoinSorter", "discrepancyOf", "(I)I"⟩ prog_1_method_37_code 3 (some .int) ∈ gd_L := gd_at 1089 (by decide +kernel) (by decide +kernel)
theorem gw_1094 : Cond.methodLink "CoinSorter" 226 ⟨"java/lang/Math", "abs", "(I)I"⟩ ∈ gd_L := gd_at 1094 (by decide +kernel) (by decide +kernel)
theorem gw_1095 : Cond.static ⟨"java/lang/Math", "abs", "(I)I"⟩ ∈ gd_L := gd_at 1095 (by decide +kernel) (by decide +kernel)
theorem gw_1096 : Cond.code ⟨"java/lang/Math", "abs", "(I)I"⟩ prog_21_method_59_code 1 (some .int) ∈ gd_L := gd_at 1096 (by decide +kernel) (by decide +kernel)
theorem gw_1101 : Cond.methodLink "CoinSorter" 231 ⟨"CoinSorter", "isAmount", "(I)Z"⟩ ∈ gd_L := gd_at 1101 (by decide +kernel) (by decide +kernel)
theorem gw_1102 : Cond.static ⟨"CoinSorter", "isAmount", "(I)Z"⟩ ∈ gd_L := gd_at 1102 (by decide +kernel) (by decide +kernel)
theorem gw_1103 : Cond.code ⟨"CoinSorter", "isAmount", "(I)Z"⟩ prog_1_method_41_code 1 (some .boolean) ∈ gd_L := gd_at 1103 (by decide +kernel) (by decide +kernel)
theorem gw_1104 : Cond.methodLink "CoinSorter" 234 ⟨"CoinSorter", "planPayout", "(I)I"⟩ ∈ gd_L := gd_at 1104 (by decide +kernel) (by decide +kernel)
theorem gw_1106 : Cond.instanceMethod ⟨"CoinSorter", "planPayout", "(I)I"⟩ ∈ gd_L := gd_at 1106 (by decide +kernel) (by decide +kernel)
theorem gw_1107 : Cond.code ⟨"CoinSorter", "planPayout", "(I)I"⟩ prog_1_method_42_code 2 (some .int) ∈ gd_L := gd_at 1107 (by decide +kernel) (by decide +kernel)
theorem gw_1110 : Cond.instanceMethod ⟨"CoinSorter$Payout", "takeStock", "(LCoinSorter$Config;LCoinSorter$Row;)V"⟩ ∈ gd_L := gd_at 1110 (by decide +kernel) (by decide +kernel)
theorem gw_1111 : Cond.code ⟨"CoinSorter$Payout", "takeStock", "(LCoinSorter$Config;LCoinSorter$Row;)V"⟩ prog_7_method_2_code 5 none ∈ gd_L := gd_at 1111 (by decide +kernel) (by decide +kernel)
theorem gw_1112 : Cond.methodLink "CoinSorter$Payout" 31 ⟨"java/util/Arrays", "fill", "([II)V"⟩ ∈ gd_L := gd_at 1112 (by decide +kernel) (by decide +kernel)
theorem gw_1113 : Cond.static ⟨"java/util/Arrays", "fill", "([II)V"⟩ ∈ gd_L := gd_at 1113 (by decide +kernel) (by decide +kernel)
theorem gw_1114 : Cond.code ⟨"java/util/Arrays", "fill", "([II)V"⟩ prog_30_method_103_code 4 none ∈ gd_L := gd_at 1114 (by decide +kernel) (by decide +kernel)
theorem gw_1118 : Cond.instanceMethod ⟨"CoinSorter$Payout", "plan", "(LCoinSorter$Row;I)I"⟩ ∈ gd_L := gd_at 1118 (by decide +kernel) (by decide +kernel)
theorem gw_1119 : Cond.code ⟨"CoinSorter$Payout", "plan", "(LCoinSorter$Row;I)I"⟩ prog_7_method_3_code 6 (some .int) ∈ gd_L := gd_at 1119 (by decide +kernel) (by decide +kernel)
theorem gw_1120 : Cond.constantLong "CoinSorter$Payout" 54 (-1) ∈ gd_L := gd_at 1120 (by decide +kernel) (by decide +kernel)
theorem gw_1121 : Cond.methodLink "CoinSorter$Payout" 56 ⟨"java/util/Arrays", "fill", "([JIIJ)V"⟩ ∈ gd_L := gd_at 1121 (by decide +kernel) (by decide +kernel)
theorem gw_1122 : Cond.static ⟨"java/util/Arrays", "fill", "([JIIJ)V"⟩ ∈ gd_L := gd_at 1122 (by decide +kernel) (by decide +kernel)
theorem gw_1123 : Cond.code ⟨"java/util/Arrays", "fill", "([JIIJ)V"⟩ prog_30_method_102_code 6 none ∈ gd_L := gd_at 1123 (by decide +kernel) (by decide +kernel)
theorem gw_1124 : Cond.methodLink "CoinSorter$Payout" 59 ⟨"java/lang/Math", "min", "(II)I"⟩ ∈ gd_L := gd_at 1124 (by decide +kernel) (by decide +kernel)
theorem gw_1125 : Cond.methodLink "CoinSorter$Payout" 65 ⟨"CoinSorter$Payout", "weighType", "(IIJI)V"⟩ ∈ gd_L := gd_at 1125 (by decide +kernel) (by decide +kernel)
theorem gw_1127 : Cond.instanceMethod ⟨"CoinSorter$Payout", "weighType", "(IIJI)V"⟩ ∈ gd_L := gd_at 1127 (by decide +kernel) (by decide +kernel)
theorem gw_1128 : Cond.code ⟨"CoinSorter$Payout", "weighType", "(IIJI)V"⟩ prog_7_method_4_code 8 none ∈ gd_L := gd_at 1128 (by decide +kernel) (by decide +kernel)
theorem gw_1129 : Cond.methodLink "CoinSorter$Payout" 73 ⟨"CoinSorter$Payout", "weighPacket", "(IJI)V"⟩ ∈ gd_L := gd_at 1129 (by decide +kernel) (by decide +kernel)
theorem gw_1131 : Cond.instanceMethod ⟨"CoinSorter$Payout", "weighPacket", "(IJI)V"⟩ ∈ gd_L := gd_at 1131 (by decide +kernel) (by decide +kernel)
theorem gw_1132 : Cond.code ⟨"CoinSorter$Payout", "weighPacket", "(IJI)V"⟩ prog_7_method_5_code 8 none ∈ gd_L := gd_at 1132 (by decide +kernel) (by decide +kernel)
theorem gw_1133 : Cond.methodLink "CoinSorter$Payout" 69 ⟨"CoinSorter$Payout", "readCoins", "(J)I"⟩ ∈ gd_L := gd_at 1133 (by decide +kernel) (by decide +kernel)
theorem gw_1135 : Cond.instanceMethod ⟨"CoinSorter$Payout", "readCoins", "(J)I"⟩ ∈ gd_L := gd_at 1135 (by decide +kernel) (by decide +kernel)
theorem gw_1136 : Cond.code ⟨"CoinSorter$Payout", "readCoins", "(J)I"⟩ prog_7_method_6_code 10 (some .int) ∈ gd_L := gd_at 1136 (by decide +kernel) (by decide +kernel)
theorem gw_1151 : Cond.methodLink "CoinSorter" 251 ⟨"CoinSorter", "isMargin", "(I)Z"⟩ ∈ gd_L := gd_at 1151 (by decide +kernel) (by decide +kernel)
theorem gw_1152 : Cond.static ⟨"CoinSorter", "isMargin", "(I)Z"⟩ ∈ gd_L := gd_at 1152 (by decide +kernel) (by decide +kernel)
theorem gw_1153 : Cond.code ⟨"CoinSorter", "isMargin", "(I)Z"⟩ prog_1_method_17_code 1 (some .boolean) ∈ gd_L := gd_at 1153 (by decide +kernel) (by decide +kernel)
theorem gw_1154 : Cond.methodLink "CoinSorter" 263 ⟨"CoinSorter", "cost", "(II)I"⟩ ∈ gd_L := gd_at 1154 (by decide +kernel) (by decide +kernel)
theorem gw_1155 : Cond.static ⟨"CoinSorter", "cost", "(II)I"⟩ ∈ gd_L := gd_at 1155 (by decide +kernel) (by decide +kernel)
theorem gw_1156 : Cond.code ⟨"CoinSorter", "cost", "(II)I"⟩ prog_1_method_45_code 3 (some .int) ∈ gd_L := gd_at 1156 (by decide +kernel) (by decide +kernel)
theorem gw_1163 : Cond.instanceMethod ⟨"CoinSorter$Tuning", "begin", "()V"⟩ ∈ gd_L := gd_at 1163 (by decide +kernel) (by decide +kernel)
theorem gw_1164 : Cond.code ⟨"CoinSorter$Tuning", "begin", "()V"⟩ prog_10_method_2_code 1 none ∈ gd_L := gd_at 1164 (by decide +kernel) (by decide +kernel)
theorem gw_1168 : Cond.instanceMethod ⟨"CoinSorter$Tuning", "add", "(II)V"⟩ ∈ gd_L := gd_at 1168 (by decide +kernel) (by decide +kernel)
theorem gw_1169 : Cond.code ⟨"CoinSorter$Tuning", "add", "(II)V"⟩ prog_10_method_3_code 3 none ∈ gd_L := gd_at 1169 (by decide +kernel) (by decide +kernel)
theorem gw_1173 : Cond.instanceMethod ⟨"CoinSorter$Tuning", "best", "()I"⟩ ∈ gd_L := gd_at 1173 (by decide +kernel) (by decide +kernel)
theorem gw_1174 : Cond.code ⟨"CoinSorter$Tuning", "best", "()I"⟩ prog_10_method_4_code 6 (some .int) ∈ gd_L := gd_at 1174 (by decide +kernel) (by decide +kernel)
theorem gw_1176 : Cond.methodLink "CoinSorter$Tuning" 37 ⟨"CoinSorter$Tuning", "riseAt", "(I)I"⟩ ∈ gd_L := gd_at 1176 (by decide +kernel) (by decide +kernel)
theorem gw_1178 : Cond.instanceMethod ⟨"CoinSorter$Tuning", "riseAt", "(I)I"⟩ ∈ gd_L := gd_at 1178 (by decide +kernel) (by decide +kernel)
theorem gw_1179 : Cond.code ⟨"CoinSorter$Tuning", "riseAt", "(I)I"⟩ prog_10_method_5_code 4 (some .int) ∈ gd_L := gd_at 1179 (by decide +kernel) (by decide +kernel)
theorem gw_1184 : Cond.methodLink "CoinSorter" 150 ⟨"CoinSorter", "isMeasurement", "(II)Z"⟩ ∈ gd_L := gd_at 1184 (by decide +kernel) (by decide +kernel)
theorem gw_1185 : Cond.static ⟨"CoinSorter", "isMeasurement", "(II)Z"⟩ ∈ gd_L := gd_at 1185 (by decide +kernel) (by decide +kernel)
theorem gw_1186 : Cond.code ⟨"CoinSorter", "isMeasurement", "(II)Z"⟩ prog_1_method_16_code 2 (some .boolean) ∈ gd_L := gd_at 1186 (by decide +kernel) (by decide +kernel)
theorem gw_1189 : Cond.instanceMethod ⟨"CoinSorter$History", "push", "(LCoinSorter$State;)V"⟩ ∈ gd_L := gd_at 1189 (by decide +kernel) (by decide +kernel)
theorem gw_1190 : Cond.code ⟨"CoinSorter$History", "push", "(LCoinSorter$State;)V"⟩ prog_3_method_2_code 2 none ∈ gd_L := gd_at 1190 (by decide +kernel) (by decide +kernel)
theorem gw_1191 : Cond.methodLink "CoinSorter$History" 25 ⟨"java/lang/Math", "floorMod", "(II)I"⟩ ∈ gd_L := gd_at 1191 (by decide +kernel) (by decide +kernel)
theorem gw_1192 : Cond.static ⟨"java/lang/Math", "floorMod", "(II)I"⟩ ∈ gd_L := gd_at 1192 (by decide +kernel) (by decide +kernel)
theorem gw_1193 : Cond.code ⟨"java/lang/Math", "floorMod", "(II)I"⟩ prog_21_method_50_code 3 (some .int) ∈ gd_L := gd_at 1193 (by decide +kernel) (by decide +kernel)
theorem gw_1196 : Cond.instanceMethod ⟨"CoinSorter$State", "copyFrom", "(LCoinSorter$State;)V"⟩ ∈ gd_L := gd_at 1196 (by decide +kernel) (by decide +kernel)
theorem gw_1197 : Cond.code ⟨"CoinSorter$State", "copyFrom", "(LCoinSorter$State;)V"⟩ prog_9_method_4_code 2 none ∈ gd_L := gd_at 1197 (by decide +kernel) (by decide +kernel)
theorem gw_1200 : Cond.instanceMethod ⟨"CoinSorter$Row", "copyFrom", "(LCoinSorter$Row;)V"⟩ ∈ gd_L := gd_at 1200 (by decide +kernel) (by decide +kernel)
theorem gw_1201 : Cond.code ⟨"CoinSorter$Row", "copyFrom", "(LCoinSorter$Row;)V"⟩ prog_8_method_11_code 2 none ∈ gd_L := gd_at 1201 (by decide +kernel) (by decide +kernel)
theorem gw_1202 : Cond.methodLink "CoinSorter$Row" 38 ⟨"java/lang/System", "arraycopy", "(Ljava/lang/Object;ILjava/lang/Object;II)V"⟩ ∈ gd_L := gd_at 1202 (by decide +kernel) (by decide +kernel)
theorem gw_1212 : Cond.methodLink "CoinSorter" 292 ⟨"CoinSorter", "coinOf", "(II)I"⟩ ∈ gd_L := gd_at 1212 (by decide +kernel) (by decide +kernel)
theorem gw_1213 : Cond.static ⟨"CoinSorter", "coinOf", "(II)I"⟩ ∈ gd_L := gd_at 1213 (by decide +kernel) (by decide +kernel)
theorem gw_1214 : Cond.code ⟨"CoinSorter", "coinOf", "(II)I"⟩ prog_1_method_50_code 2 (some .int) ∈ gd_L := gd_at 1214 (by decide +kernel) (by decide +kernel)
theorem gw_1220 : Cond.methodLink "CoinSorter" 297 ⟨"CoinSorter", "move", "(I)V"⟩ ∈ gd_L := gd_at 1220 (by decide +kernel) (by decide +kernel)
theorem gw_1222 : Cond.instanceMethod ⟨"CoinSorter", "move", "(I)V"⟩ ∈ gd_L := gd_at 1222 (by decide +kernel) (by decide +kernel)
theorem gw_1223 : Cond.code ⟨"CoinSorter", "move", "(I)V"⟩ prog_1_method_59_code 4 none ∈ gd_L := gd_at 1223 (by decide +kernel) (by decide +kernel)
theorem gw_1226 : Cond.instanceMethod ⟨"CoinSorter$Row", "removeAt", "(I)I"⟩ ∈ gd_L := gd_at 1226 (by decide +kernel) (by decide +kernel)
theorem gw_1227 : Cond.code ⟨"CoinSorter$Row", "removeAt", "(I)I"⟩ prog_8_method_8_code 4 (some .int) ∈ gd_L := gd_at 1227 (by decide +kernel) (by decide +kernel)
theorem gw_1228 : Cond.methodLink "CoinSorter$Row" 25 ⟨"CoinSorter$Row", "has", "(I)Z"⟩ ∈ gd_L := gd_at 1228 (by decide +kernel) (by decide +kernel)
theorem gw_1231 : Cond.instanceMethod ⟨"CoinSorter$Row", "increase", "(II)V"⟩ ∈ gd_L := gd_at 1231 (by decide +kernel) (by decide +kernel)
theorem gw_1232 : Cond.code ⟨"CoinSorter$Row", "increase", "(II)V"⟩ prog_8_method_6_code 3 none ∈ gd_L := gd_at 1232 (by decide +kernel) (by decide +kernel)
theorem gw_1235 : Cond.instanceMethod ⟨"CoinSorter$State", "addRecord", "(I)V"⟩ ∈ gd_L := gd_at 1235 (by decide +kernel) (by decide +kernel)
theorem gw_1236 : Cond.code ⟨"CoinSorter$State", "addRecord", "(I)V"⟩ prog_9_method_3_code 2 none ∈ gd_L := gd_at 1236 (by decide +kernel) (by decide +kernel)
theorem gw_1256 : Cond.methodLink "CoinSorter" 339 ⟨"java/lang/Math", "min", "(II)I"⟩ ∈ gd_L := gd_at 1256 (by decide +kernel) (by decide +kernel)
theorem gw_1267 : Cond.instanceMethod ⟨"CoinSorter$History", "pop", "(LCoinSorter$State;)Z"⟩ ∈ gd_L := gd_at 1267 (by decide +kernel) (by decide +kernel)
theorem gw_1268 : Cond.code ⟨"CoinSorter$History", "pop", "(LCoinSorter$State;)Z"⟩ prog_3_method_3_code 2 (some .boolean) ∈ gd_L := gd_at 1268 (by decide +kernel) (by decide +kernel)
theorem gw_1347 : Cond.methodLink "CoinSorterModel" 1 ⟨"java/lang/Object", "<init>", "()V"⟩ ∈ gd_L := gd_at 1347 (by decide +kernel) (by decide +kernel)
theorem gw_1348 : Cond.constant "CoinSorterModel" 42 45009 ∈ gd_L := gd_at 1348 (by decide +kernel) (by decide +kernel)
theorem gw_1349 : Cond.methodLink "CoinSorterModel" 55 ⟨"CoinSorterModel", "clearState", "()V"⟩ ∈ gd_L := gd_at 1349 (by decide +kernel) (by decide +kernel)
theorem gw_1351 : Cond.instanceMethod ⟨"CoinSorterModel", "clearState", "()V"⟩ ∈ gd_L := gd_at 1351 (by decide +kernel) (by decide +kernel)
theorem gw_1352 : Cond.code ⟨"CoinSorterModel", "clearState", "()V"⟩ prog_12_method_17_code 2 none ∈ gd_L := gd_at 1352 (by decide +kernel) (by decide +kernel)
theorem gw_1353 : Cond.fieldLink "CoinSorterModel" 58 "CoinSorterModel" "thrown" "I" ∈ gd_L := gd_at 1353 (by decide +kernel) (by decide +kernel)
theorem gw_1354 : Cond.fieldLink "CoinSorterModel" 7 "CoinSorterModel" "buffer" "[B" ∈ gd_L := gd_at 1354 (by decide +kernel) (by decide +kernel)
theorem gw_1355 : Cond.fieldLink "CoinSorterModel" 62 "CoinSorterModel" "length" "I" ∈ gd_L := gd_at 1355 (by decide +kernel) (by decide +kernel)
theorem gw_1356 : Cond.fieldLink "CoinSorterModel" 69 "CoinSorterModel" "textLength" "I" ∈ gd_L := gd_at 1356 (by decide +kernel) (by decide +kernel)
theorem gw_1357 : Cond.fieldLink "CoinSorterModel" 75 "CoinSorterModel" "tokenStart" "I" ∈ gd_L := gd_at 1357 (by decide +kernel) (by decide +kernel)
theorem gw_1358 : Cond.fieldLink "CoinSorterModel" 72 "CoinSorterModel" "tokenEnd" "I" ∈ gd_L := gd_at 1358 (by decide +kernel) (by decide +kernel)
theorem gw_1359 : Cond.fieldLink "CoinSorterModel" 82 "CoinSorterModel" "token" "I" ∈ gd_L := gd_at 1359 (by decide +kernel) (by decide +kernel)
theorem gw_1360 : Cond.fieldLink "CoinSorterModel" 97 "CoinSorterModel" "value" "I" ∈ gd_L := gd_at 1360 (by decide +kernel) (by decide +kernel)
theorem gw_1361 : Cond.fieldLink "CoinSorterModel" 100 "CoinSorterModel" "error" "I" ∈ gd_L := gd_at 1361 (by decide +kernel) (by decide +kernel)
theorem gw_1362 : Cond.fieldLink "CoinSorterModel" 103 "CoinSorterModel" "errorOffset" "I" ∈ gd_L := gd_at 1362 (by decide +kernel) (by decide +kernel)
theorem gw_1363 : Cond.fieldLink "CoinSorterModel" 13 "CoinSorterModel" "basic" "[I" ∈ gd_L := gd_at 1363 (by decide +kernel) (by decide +kernel)
theorem gw_1364 : Cond.fieldLink "CoinSorterModel" 17 "CoinSorterModel" "draft" "[I" ∈ gd_L := gd_at 1364 (by decide +kernel) (by decide +kernel)
theorem gw_1365 : Cond.fieldLink "CoinSorterModel" 20 "CoinSorterModel" "kinds" "[I" ∈ gd_L := gd_at 1365 (by decide +kernel) (by decide +kernel)
theorem gw_1366 : Cond.fieldLink "CoinSorterModel" 23 "CoinSorterModel" "binType" "[I" ∈ gd_L := gd_at 1366 (by decide +kernel) (by decide +kernel)
theorem gw_1367 : Cond.fieldLink "CoinSorterModel" 26 "CoinSorterModel" "binSize" "[I" ∈ gd_L := gd_at 1367 (by decide +kernel) (by decide +kernel)
theorem gw_1368 : Cond.fieldLink "CoinSorterModel" 126 "CoinSorterModel" "given" "I" ∈ gd_L := gd_at 1368 (by decide +kernel) (by decide +kernel)
theorem gw_1369 : Cond.fieldLink "CoinSorterModel" 29 "CoinSorterModel" "state" "[I" ∈ gd_L := gd_at 1369 (by decide +kernel) (by decide +kernel)
theorem gw_1370 : Cond.fieldLink "CoinSorterModel" 32 "CoinSorterModel" "history" "[I" ∈ gd_L := gd_at 1370 (by decide +kernel) (by decide +kernel)
theorem gw_1371 : Cond.fieldLink "CoinSorterModel" 160 "CoinSorterModel" "depth" "I" ∈ gd_L := gd_at 1371 (by decide +kernel) (by decide +kernel)
theorem gw_1372 : Cond.fieldLink "CoinSorterModel" 35 "CoinSorterModel" "slots" "[I" ∈ gd_L := gd_at 1372 (by decide +kernel) (by decide +kernel)
theorem gw_1373 : Cond.fieldLink "CoinSorterModel" 38 "CoinSorterModel" "isSaved" "[Z" ∈ gd_L := gd_at 1373 (by decide +kernel) (by decide +kernel)
theorem gw_1374 : Cond.fieldLink "CoinSorterModel" 181 "CoinSorterModel" "bestType" "I" ∈ gd_L := gd_at 1374 (by decide +kernel) (by decide +kernel)
theorem gw_1375 : Cond.fieldLink "CoinSorterModel" 184 "CoinSorterModel" "lowest" "I" ∈ gd_L := gd_at 1375 (by decide +kernel) (by decide +kernel)
theorem gw_1376 : Cond.fieldLink "CoinSorterModel" 187 "CoinSorterModel" "second" "I" ∈ gd_L := gd_at 1376 (by decide +kernel) (by decide +kernel)
theorem gw_1377 : Cond.fieldLink "CoinSorterModel" 190 "CoinSorterModel" "lowestFake" "I" ∈ gd_L := gd_at 1377 (by decide +kernel) (by decide +kernel)
theorem gw_1378 : Cond.fieldLink "CoinSorterModel" 43 "CoinSorterModel" "fewest" "[I" ∈ gd_L := gd_at 1378 (by decide +kernel) (by decide +kernel)
theorem gw_1379 : Cond.fieldLink "CoinSorterModel" 46 "CoinSorterModel" "held" "[I" ∈ gd_L := gd_at 1379 (by decide +kernel) (by decide +kernel)
theorem gw_1380 : Cond.fieldLink "CoinSorterModel" 49 "CoinSorterModel" "paid" "[I" ∈ gd_L := gd_at 1380 (by decide +kernel) (by decide +kernel)
theorem gw_1381 : Cond.fieldLink "CoinSorterModel" 52 "CoinSorterModel" "changes" "[I" ∈ gd_L := gd_at 1381 (by decide +kernel) (by decide +kernel)
theorem gw_1449 : Cond.methodLink "CoinSorterModel" 65 ⟨"CoinSorterModel", "appendInt", "(I)V"⟩ ∈ gd_L := gd_at 1449 (by decide +kernel) (by decide +kernel)
theorem gw_1451 : Cond.instanceMethod ⟨"CoinSorterModel", "appendInt", "(I)V"⟩ ∈ gd_L := gd_at 1451 (by decide +kernel) (by decide +kernel)
theorem gw_1452 : Cond.code ⟨"CoinSorterModel", "appendInt", "(I)V"⟩ prog_12_method_5_code 3 none ∈ gd_L := gd_at 1452 (by decide +kernel) (by decide +kernel)
theorem gw_1457 : Cond.methodLink "CoinSorterModel" 89 ⟨"CoinSorterModel", "within", "(JJJ)Z"⟩ ∈ gd_L := gd_at 1457 (by decide +kernel) (by decide +kernel)
theorem gw_1458 : Cond.static ⟨"CoinSorterModel", "within", "(JJJ)Z"⟩ ∈ gd_L := gd_at 1458 (by decide +kernel) (by decide +kernel)
theorem gw_1459 : Cond.code ⟨"CoinSorterModel", "within", "(JJJ)Z"⟩ prog_12_method_3_code 6 (some .boolean) ∈ gd_L := gd_at 1459 (by decide +kernel) (by decide +kernel)
theorem gw_1460 : Cond.methodLink "CoinSorterModel" 119 ⟨"CoinSorterModel", "nextToken", "()V"⟩ ∈ gd_L := gd_at 1460 (by decide +kernel) (by decide +kernel)
theorem gw_1462 : Cond.instanceMethod ⟨"CoinSorterModel", "nextToken", "()V"⟩ ∈ gd_L := gd_at 1462 (by decide +kernel) (by decide +kernel)
theorem gw_1463 : Cond.code ⟨"CoinSorterModel", "nextToken", "()V"⟩ prog_12_method_8_code 2 none ∈ gd_L := gd_at 1463 (by decide +kernel) (by decide +kernel)
theorem gw_1464 : Cond.methodLink "CoinSorterModel" 78 ⟨"CoinSorterModel", "byteAt", "(I)I"⟩ ∈ gd_L := gd_at 1464 (by decide +kernel) (by decide +kernel)
theorem gw_1466 : Cond.instanceMethod ⟨"CoinSorterModel", "byteAt", "(I)I"⟩ ∈ gd_L := gd_at 1466 (by decide +kernel) (by decide +kernel)
theorem gw_1467 : Cond.code ⟨"CoinSorterModel", "byteAt", "(I)I"⟩ prog_12_method_7_code 2 (some .int) ∈ gd_L := gd_at 1467 (by decide +kernel) (by decide +kernel)
theorem gw_1468 : Cond.constantLong "CoinSorterModel" 85 97 ∈ gd_L := gd_at 1468 (by decide +kernel) (by decide +kernel)
theorem gw_1469 : Cond.constantLong "CoinSorterModel" 87 122 ∈ gd_L := gd_at 1469 (by decide +kernel) (by decide +kernel)
theorem gw_1470 : Cond.constantLong "CoinSorterModel" 93 48 ∈ gd_L := gd_at 1470 (by decide +kernel) (by decide +kernel)
theorem gw_1471 : Cond.constantLong "CoinSorterModel" 95 57 ∈ gd_L := gd_at 1471 (by decide +kernel) (by decide +kernel)
theorem gw_1472 : Cond.methodLink "CoinSorterModel" 153 ⟨"CoinSorterModel", "statement", "()V"⟩ ∈ gd_L := gd_at 1472 (by decide +kernel) (by decide +kernel)
theorem gw_1474 : Cond.instanceMethod ⟨"CoinSorterModel", "statement", "()V"⟩ ∈ gd_L := gd_at 1474 (by decide +kernel) (by decide +kernel)
theorem gw_1475 : Cond.code ⟨"CoinSorterModel", "statement", "()V"⟩ prog_12_method_14_code 1 none ∈ gd_L := gd_at 1475 (by decide +kernel) (by decide +kernel)
theorem gw_1477 : Cond.methodLink "CoinSorterModel" 131 ⟨"CoinSorterModel", "is", "(Ljava/lang/String;)Z"⟩ ∈ gd_L := gd_at 1477 (by decide +kernel) (by decide +kernel)
theorem gw_1479 : Cond.instanceMethod ⟨"CoinSorterModel", "is", "(Ljava/lang/String;)Z"⟩ ∈ gd_L := gd_at 1479 (by decide +kernel) (by decide +kernel)
theorem gw_1480 : Cond.code ⟨"CoinSorterModel", "is", "(Ljava/lang/String;)Z"⟩ prog_12_method_10_code 3 (some .boolean) ∈ gd_L := gd_at 1480 (by decide +kernel) (by decide +kernel)
theorem gw_1481 : Cond.methodLink "CoinSorterModel" 106 ⟨"java/lang/String", "length", "()I"⟩ ∈ gd_L := gd_at 1481 (by decide +kernel) (by decide +kernel)
theorem gw_1482 : Cond.methodLink "CoinSorterModel" 111 ⟨"java/lang/String", "charAt", "(I)C"⟩ ∈ gd_L := gd_at 1482 (by decide +kernel) (by decide +kernel)
theorem gw_1483 : Cond.methodLink "CoinSorterModel" 115 ⟨"CoinSorterModel", "must", "(ZI)Z"⟩ ∈ gd_L := gd_at 1483 (by decide +kernel) (by decide +kernel)
theorem gw_1485 : Cond.instanceMethod ⟨"CoinSorterModel", "must", "(ZI)Z"⟩ ∈ gd_L := gd_at 1485 (by decide +kernel) (by decide +kernel)
theorem gw_1486 : Cond.code ⟨"CoinSorterModel", "must", "(ZI)Z"⟩ prog_12_method_9_code 3 (some .boolean) ∈ gd_L := gd_at 1486 (by decide +kernel) (by decide +kernel)
theorem gw_1487 : Cond.methodLink "CoinSorterModel" 135 ⟨"CoinSorterModel", "readKind", "(IZ)V"⟩ ∈ gd_L := gd_at 1487 (by decide +kernel) (by decide +kernel)
theorem gw_1489 : Cond.instanceMethod ⟨"CoinSorterModel", "readKind", "(IZ)V"⟩ ∈ gd_L := gd_at 1489 (by decide +kernel) (by decide +kernel)
theorem gw_1490 : Cond.code ⟨"CoinSorterModel", "readKind", "(IZ)V"⟩ prog_12_method_12_code 4 none ∈ gd_L := gd_at 1490 (by decide +kernel) (by decide +kernel)
theorem gw_1491 : Cond.methodLink "CoinSorterModel" 122 ⟨"CoinSorterModel", "number", "(II)I"⟩ ∈ gd_L := gd_at 1491 (by decide +kernel) (by decide +kernel)
theorem gw_1493 : Cond.instanceMethod ⟨"CoinSorterModel", "number", "(II)I"⟩ ∈ gd_L := gd_at 1493 (by decide +kernel) (by decide +kernel)
theorem gw_1494 : Cond.code ⟨"CoinSorterModel", "number", "(II)I"⟩ prog_12_method_11_code 4 (some .int) ∈ gd_L := gd_at 1494 (by decide +kernel) (by decide +kernel)
theorem gw_1498 : Cond.methodLink "CoinSorterModel" 145 ⟨"CoinSorterModel", "once", "(III)I"⟩ ∈ gd_L := gd_at 1498 (by decide +kernel) (by decide +kernel)
theorem gw_1500 : Cond.instanceMethod ⟨"CoinSorterModel", "once", "(III)I"⟩ ∈ gd_L := gd_at 1500 (by decide +kernel) (by decide +kernel)
theorem gw_1501 : Cond.code ⟨"CoinSorterModel", "once", "(III)I"⟩ prog_12_method_13_code 4 (some .int) ∈ gd_L := gd_at 1501 (by decide +kernel) (by decide +kernel)
theorem gw_1504 : Cond.methodLink "CoinSorterModel" 156 ⟨"CoinSorterModel", "adopt", "([I)V"⟩ ∈ gd_L := gd_at 1504 (by decide +kernel) (by decide +kernel)
theorem gw_1505 : Cond.static ⟨"CoinSorterModel", "adopt", "([I)V"⟩ ∈ gd_L := gd_at 1505 (by decide +kernel) (by decide +kernel)
theorem gw_1506 : Cond.code ⟨"CoinSorterModel", "adopt", "([I)V"⟩ prog_12_method_15_code 2 none ∈ gd_L := gd_at 1506 (by decide +kernel) (by decide +kernel)
theorem gw_1511 : Cond.methodLink "CoinSorterModel" 167 ⟨"CoinSorterModel", "told", "(I)I"⟩ ∈ gd_L := gd_at 1511 (by decide +kernel) (by decide +kernel)
theorem gw_1513 : Cond.instanceMethod ⟨"CoinSorterModel", "told", "(I)I"⟩ ∈ gd_L := gd_at 1513 (by decide +kernel) (by decide +kernel)
theorem gw_1514 : Cond.code ⟨"CoinSorterModel", "told", "(I)I"⟩ prog_12_method_23_code 2 (some .int) ∈ gd_L := gd_at 1514 (by decide +kernel) (by decide +kernel)
theorem gw_1527 : Cond.methodLink "CoinSorterModel" 170 ⟨"CoinSorterModel", "isType", "(I)Z"⟩ ∈ gd_L := gd_at 1527 (by decide +kernel) (by decide +kernel)
theorem gw_1529 : Cond.instanceMethod ⟨"CoinSorterModel", "isType", "(I)Z"⟩ ∈ gd_L := gd_at 1529 (by decide +kernel) (by decide +kernel)
theorem gw_1530 : Cond.code ⟨"CoinSorterModel", "isType", "(I)Z"⟩ prog_12_method_19_code 2 (some .boolean) ∈ gd_L := gd_at 1530 (by decide +kernel) (by decide +kernel)
theorem gw_1535 : Cond.methodLink "CoinSorterModel" 174 ⟨"CoinSorterModel", "isBin", "(I)Z"⟩ ∈ gd_L := gd_at 1535 (by decide +kernel) (by decide +kernel)
theorem gw_1537 : Cond.instanceMethod ⟨"CoinSorterModel", "isBin", "(I)Z"⟩ ∈ gd_L := gd_at 1537 (by decide +kernel) (by decide +kernel)
theorem gw_1538 : Cond.code ⟨"CoinSorterModel", "isBin", "(I)Z"⟩ prog_12_method_20_code 2 (some .boolean) ∈ gd_L := gd_at 1538 (by decide +kernel) (by decide +kernel)
theorem gw_1547 : Cond.methodLink "CoinSorterModel" 205 ⟨"CoinSorterModel", "fail", "(I)I"⟩ ∈ gd_L := gd_at 1547 (by decide +kernel) (by decide +kernel)
theorem gw_1549 : Cond.instanceMethod ⟨"CoinSorterModel", "fail", "(I)I"⟩ ∈ gd_L := gd_at 1549 (by decide +kernel) (by decide +kernel)
theorem gw_1550 : Cond.code ⟨"CoinSorterModel", "fail", "(I)I"⟩ prog_12_method_4_code 2 (some .int) ∈ gd_L := gd_at 1550 (by decide +kernel) (by decide +kernel)
theorem gw_1551 : Cond.methodLink "CoinSorterModel" 208 ⟨"CoinSorterModel", "isCoin", "(II)Z"⟩ ∈ gd_L := gd_at 1551 (by decide +kernel) (by decide +kernel)
theorem gw_1552 : Cond.static ⟨"CoinSorterModel", "isCoin", "(II)Z"⟩ ∈ gd_L := gd_at 1552 (by decide +kernel) (by decide +kernel)
theorem gw_1553 : Cond.code ⟨"CoinSorterModel", "isCoin", "(II)Z"⟩ prog_12_method_22_code 2 (some .boolean) ∈ gd_L := gd_at 1553 (by decide +kernel) (by decide +kernel)
theorem gw_1554 : Cond.constantLong "CoinSorterModel" 163 4000 ∈ gd_L := gd_at 1554 (by decide +kernel) (by decide +kernel)
theorem gw_1555 : Cond.constantLong "CoinSorterModel" 165 9999 ∈ gd_L := gd_at 1555 (by decide +kernel) (by decide +kernel)
theorem gw_1556 : Cond.methodLink "CoinSorterModel" 193 ⟨"CoinSorterModel", "scoreFor", "(III)I"⟩ ∈ gd_L := gd_at 1556 (by decide +kernel) (by decide +kernel)
theorem gw_1558 : Cond.instanceMethod ⟨"CoinSorterModel", "scoreFor", "(III)I"⟩ ∈ gd_L := gd_at 1558 (by decide +kernel) (by decide +kernel)
theorem gw_1559 : Cond.code ⟨"CoinSorterModel", "scoreFor", "(III)I"⟩ prog_12_method_31_code 7 (some .int) ∈ gd_L := gd_at 1559 (by decide +kernel) (by decide +kernel)
theorem gw_1560 : Cond.methodLink "CoinSorterModel" 177 ⟨"CoinSorterModel", "deviation", "(III)I"⟩ ∈ gd_L := gd_at 1560 (by decide +kernel) (by decide +kernel)
theorem gw_1561 : Cond.static ⟨"CoinSorterModel", "deviation", "(III)I"⟩ ∈ gd_L := gd_at 1561 (by decide +kernel) (by decide +kernel)
theorem gw_1562 : Cond.code ⟨"CoinSorterModel", "deviation", "(III)I"⟩ prog_12_method_30_code 4 (some .int) ∈ gd_L := gd_at 1562 (by decide +kernel) (by decide +kernel)
theorem gw_1563 : Cond.constant "CoinSorterModel" 180 1000000 ∈ gd_L := gd_at 1563 (by decide +kernel) (by decide +kernel)
theorem gw_1568 : Cond.methodLink "CoinSorterModel" 212 ⟨"CoinSorterModel", "verdict", "(III)I"⟩ ∈ gd_L := gd_at 1568 (by decide +kernel) (by decide +kernel)
theorem gw_1570 : Cond.instanceMethod ⟨"CoinSorterModel", "verdict", "(III)I"⟩ ∈ gd_L := gd_at 1570 (by decide +kernel) (by decide +kernel)
theorem gw_1571 : Cond.code ⟨"CoinSorterModel", "verdict", "(III)I"⟩ prog_12_method_33_code 4 (some .int) ∈ gd_L := gd_at 1571 (by decide +kernel) (by decide +kernel)
theorem gw_1572 : Cond.methodLink "CoinSorterModel" 201 ⟨"CoinSorterModel", "look", "(II)V"⟩ ∈ gd_L := gd_at 1572 (by decide +kernel) (by decide +kernel)
theorem gw_1574 : Cond.instanceMethod ⟨"CoinSorterModel", "look", "(II)V"⟩ ∈ gd_L := gd_at 1574 (by decide +kernel) (by decide +kernel)
theorem gw_1575 : Cond.code ⟨"CoinSorterModel", "look", "(II)V"⟩ prog_12_method_32_code 5 none ∈ gd_L := gd_at 1575 (by decide +kernel) (by decide +kernel)
theorem gw_1576 : Cond.methodLink "CoinSorterModel" 196 ⟨"java/lang/Math", "min", "(II)I"⟩ ∈ gd_L := gd_at 1576 (by decide +kernel) (by decide +kernel)
theorem gw_1609 : Cond.methodLink "CoinSorterModel" 227 ⟨"CoinSorterModel", "nextOutcome", "()I"⟩ ∈ gd_L := gd_at 1609 (by decide +kernel) (by decide +kernel)
theorem gw_1611 : Cond.instanceMethod ⟨"CoinSorterModel", "nextOutcome", "()I"⟩ ∈ gd_L := gd_at 1611 (by decide +kernel) (by decide +kernel)
theorem gw_1612 : Cond.code ⟨"CoinSorterModel", "nextOutcome", "()I"⟩ prog_12_method_47_code 4 (some .int) ∈ gd_L := gd_at 1612 (by decide +kernel) (by decide +kernel)
theorem gw_1613 : Cond.methodLink "CoinSorterModel" 221 ⟨"CoinSorterModel", "movable", "()I"⟩ ∈ gd_L := gd_at 1613 (by decide +kernel) (by decide +kernel)
theorem gw_1615 : Cond.instanceMethod ⟨"CoinSorterModel", "movable", "()I"⟩ ∈ gd_L := gd_at 1615 (by decide +kernel) (by decide +kernel)
theorem gw_1616 : Cond.code ⟨"CoinSorterModel", "movable", "()I"⟩ prog_12_method_46_code 2 (some .int) ∈ gd_L := gd_at 1616 (by decide +kernel) (by decide +kernel)
theorem gw_1617 : Cond.methodLink "CoinSorterModel" 218 ⟨"CoinSorterModel", "roomFor", "(I)I"⟩ ∈ gd_L := gd_at 1617 (by decide +kernel) (by decide +kernel)
theorem gw_1619 : Cond.instanceMethod ⟨"CoinSorterModel", "roomFor", "(I)I"⟩ ∈ gd_L := gd_at 1619 (by decide +kernel) (by decide +kernel)
theorem gw_1620 : Cond.code ⟨"CoinSorterModel", "roomFor", "(I)I"⟩ prog_12_method_45_code 4 (some .int) ∈ gd_L := gd_at 1620 (by decide +kernel) (by decide +kernel)
theorem gw_1621 : Cond.methodLink "CoinSorterModel" 215 ⟨"CoinSorterModel", "missing", "(I)I"⟩ ∈ gd_L := gd_at 1621 (by decide +kernel) (by decide +kernel)
theorem gw_1623 : Cond.instanceMethod ⟨"CoinSorterModel", "missing", "(I)I"⟩ ∈ gd_L := gd_at 1623 (by decide +kernel) (by decide +kernel)
theorem gw_1624 : Cond.code ⟨"CoinSorterModel", "missing", "(I)I"⟩ prog_12_method_44_code 2 (some .int) ∈ gd_L := gd_at 1624 (by decide +kernel) (by decide +kernel)
theorem gw_1625 : Cond.methodLink "CoinSorterModel" 224 ⟨"CoinSorterModel", "hasBin", "(I)Z"⟩ ∈ gd_L := gd_at 1625 (by decide +kernel) (by decide +kernel)
theorem gw_1627 : Cond.instanceMethod ⟨"CoinSorterModel", "hasBin", "(I)Z"⟩ ∈ gd_L := gd_at 1627 (by decide +kernel) (by decide +kernel)
theorem gw_1628 : Cond.code ⟨"CoinSorterModel", "hasBin", "(I)Z"⟩ prog_12_method_43_code 3 (some .boolean) ∈ gd_L := gd_at 1628 (by decide +kernel) (by decide +kernel)
theorem gw_1641 : Cond.methodLink "CoinSorterModel" 234 ⟨"CoinSorterModel", "rejectPlace", "(I)I"⟩ ∈ gd_L := gd_at 1641 (by decide +kernel) (by decide +kernel)
theorem gw_1642 : Cond.static ⟨"CoinSorterModel", "rejectPlace", "(I)I"⟩ ∈ gd_L := gd_at 1642 (by decide +kernel) (by decide +kernel)
theorem gw_1643 : Cond.code ⟨"CoinSorterModel", "rejectPlace", "(I)I"⟩ prog_12_method_51_code 1 (some .int) ∈ gd_L := gd_at 1643 (by decide +kernel) (by decide +kernel)
theorem gw_1644 : Cond.constantLong "CoinSorterModel" 230 21 ∈ gd_L := gd_at 1644 (by decide +kernel) (by decide +kernel)
theorem gw_1645 : Cond.constantLong "CoinSorterModel" 232 24 ∈ gd_L := gd_at 1645 (by decide +kernel) (by decide +kernel)
theorem gw_1666 : Cond.methodLink "CoinSorterModel" 237 ⟨"CoinSorterModel", "isBag", "(I)Z"⟩ ∈ gd_L := gd_at 1666 (by decide +kernel) (by decide +kernel)
theorem gw_1668 : Cond.instanceMethod ⟨"CoinSorterModel", "isBag", "(I)Z"⟩ ∈ gd_L := gd_at 1668 (by decide +kernel) (by decide +kernel)
theorem gw_1669 : Cond.code ⟨"CoinSorterModel", "isBag", "(I)Z"⟩ prog_12_method_21_code 2 (some .boolean) ∈ gd_L := gd_at 1669 (by decide +kernel) (by decide +kernel)
theorem gw_1678 : Cond.methodLink "CoinSorterModel" 240 ⟨"CoinSorterModel", "partOf", "(I)I"⟩ ∈ gd_L := gd_at 1678 (by decide +kernel) (by decide +kernel)
theorem gw_1680 : Cond.instanceMethod ⟨"CoinSorterModel", "partOf", "(I)I"⟩ ∈ gd_L := gd_at 1680 (by decide +kernel) (by decide +kernel)
theorem gw_1681 : Cond.code ⟨"CoinSorterModel", "partOf", "(I)I"⟩ prog_12_method_59_code 2 (some .int) ∈ gd_L := gd_at 1681 (by decide +kernel) (by decide +kernel)
theorem gw_1690 : Cond.methodLink "CoinSorterModel" 254 ⟨"CoinSorterModel", "isAmount", "(I)Z"⟩ ∈ gd_L := gd_at 1690 (by decide +kernel) (by decide +kernel)
theorem gw_1691 : Cond.static ⟨"CoinSorterModel", "isAmount", "(I)Z"⟩ ∈ gd_L := gd_at 1691 (by decide +kernel) (by decide +kernel)
theorem gw_1692 : Cond.code ⟨"CoinSorterModel", "isAmount", "(I)Z"⟩ prog_12_method_66_code 1 (some .boolean) ∈ gd_L := gd_at 1692 (by decide +kernel) (by decide +kernel)
theorem gw_1693 : Cond.constantLong "CoinSorterModel" 252 5000 ∈ gd_L := gd_at 1693 (by decide +kernel) (by decide +kernel)
theorem gw_1694 : Cond.methodLink "CoinSorterModel" 257 ⟨"CoinSorterModel", "pays", "(I)Z"⟩ ∈ gd_L := gd_at 1694 (by decide +kernel) (by decide +kernel)
theorem gw_1696 : Cond.instanceMethod ⟨"CoinSorterModel", "pays", "(I)Z"⟩ ∈ gd_L := gd_at 1696 (by decide +kernel) (by decide +kernel)
theorem gw_1697 : Cond.code ⟨"CoinSorterModel", "pays", "(I)Z"⟩ prog_12_method_65_code 5 (some .boolean) ∈ gd_L := gd_at 1697 (by decide +kernel) (by decide +kernel)
theorem gw_1698 : Cond.methodLink "CoinSorterModel" 249 ⟨"CoinSorterModel", "layPayouts", "(I)V"⟩ ∈ gd_L := gd_at 1698 (by decide +kernel) (by decide +kernel)
theorem gw_1700 : Cond.instanceMethod ⟨"CoinSorterModel", "layPayouts", "(I)V"⟩ ∈ gd_L := gd_at 1700 (by decide +kernel) (by decide +kernel)
theorem gw_1701 : Cond.code ⟨"CoinSorterModel", "layPayouts", "(I)V"⟩ prog_12_method_64_code 7 none ∈ gd_L := gd_at 1701 (by decide +kernel) (by decide +kernel)
theorem gw_1702 : Cond.methodLink "CoinSorterModel" 243 ⟨"CoinSorterModel", "coinValue", "(I)I"⟩ ∈ gd_L := gd_at 1702 (by decide +kernel) (by decide +kernel)
theorem gw_1704 : Cond.instanceMethod ⟨"CoinSorterModel", "coinValue", "(I)I"⟩ ∈ gd_L := gd_at 1704 (by decide +kernel) (by decide +kernel)
theorem gw_1705 : Cond.code ⟨"CoinSorterModel", "coinValue", "(I)I"⟩ prog_12_method_62_code 2 (some .int) ∈ gd_L := gd_at 1705 (by decide +kernel) (by decide +kernel)
theorem gw_1706 : Cond.methodLink "CoinSorterModel" 246 ⟨"CoinSorterModel", "fewestAt", "(II)I"⟩ ∈ gd_L := gd_at 1706 (by decide +kernel) (by decide +kernel)
theorem gw_1708 : Cond.instanceMethod ⟨"CoinSorterModel", "fewestAt", "(II)I"⟩ ∈ gd_L := gd_at 1708 (by decide +kernel) (by decide +kernel)
theorem gw_1709 : Cond.code ⟨"CoinSorterModel", "fewestAt", "(II)I"⟩ prog_12_method_63_code 3 (some .int) ∈ gd_L := gd_at 1709 (by decide +kernel) (by decide +kernel)
theorem gw_1722 : Cond.constantLong "CoinSorterModel" 266 2000 ∈ gd_L := gd_at 1722 (by decide +kernel) (by decide +kernel)
theorem gw_1723 : Cond.methodLink "CoinSorterModel" 268 ⟨"CoinSorterModel", "costWith", "(I)I"⟩ ∈ gd_L := gd_at 1723 (by decide +kernel) (by decide +kernel)
theorem gw_1725 : Cond.instanceMethod ⟨"CoinSorterModel", "costWith", "(I)I"⟩ ∈ gd_L := gd_at 1725 (by decide +kernel) (by decide +kernel)
theorem gw_1726 : Cond.code ⟨"CoinSorterModel", "costWith", "(I)I"⟩ prog_12_method_72_code 4 (some .int) ∈ gd_L := gd_at 1726 (by decide +kernel) (by decide +kernel)
theorem gw_1727 : Cond.methodLink "CoinSorterModel" 260 ⟨"CoinSorterModel", "sampleVerdict", "(II)I"⟩ ∈ gd_L := gd_at 1727 (by decide +kernel) (by decide +kernel)
theorem gw_1729 : Cond.instanceMethod ⟨"CoinSorterModel", "sampleVerdict", "(II)I"⟩ ∈ gd_L := gd_at 1729 (by decide +kernel) (by decide +kernel)
theorem gw_1730 : Cond.code ⟨"CoinSorterModel", "sampleVerdict", "(II)I"⟩ prog_12_method_71_code 3 (some .int) ∈ gd_L := gd_at 1730 (by decide +kernel) (by decide +kernel)
theorem gw_1731 : Cond.methodLink "CoinSorterModel" 263 ⟨"CoinSorterModel", "costOf", "(II)I"⟩ ∈ gd_L := gd_at 1731 (by decide +kernel) (by decide +kernel)
theorem gw_1732 : Cond.static ⟨"CoinSorterModel", "costOf", "(II)I"⟩ ∈ gd_L := gd_at 1732 (by decide +kernel) (by decide +kernel)
theorem gw_1733 : Cond.code ⟨"CoinSorterModel", "costOf", "(II)I"⟩ prog_12_method_70_code 2 (some .int) ∈ gd_L := gd_at 1733 (by decide +kernel) (by decide +kernel)
theorem gw_1742 : Cond.methodLink "CoinSorterModel" 271 ⟨"CoinSorterModel", "keep", "()V"⟩ ∈ gd_L := gd_at 1742 (by decide +kernel) (by decide +kernel)
theorem gw_1744 : Cond.instanceMethod ⟨"CoinSorterModel", "keep", "()V"⟩ ∈ gd_L := gd_at 1744 (by decide +kernel) (by decide +kernel)
theorem gw_1745 : Cond.code ⟨"CoinSorterModel", "keep", "()V"⟩ prog_12_method_18_code 2 none ∈ gd_L := gd_at 1745 (by decide +kernel) (by decide +kernel)
theorem gw_1758 : Cond.methodLink "CoinSorterModel" 283 ⟨"CoinSorterModel", "isStep", "(I)Z"⟩ ∈ gd_L := gd_at 1758 (by decide +kernel) (by decide +kernel)
theorem gw_1760 : Cond.instanceMethod ⟨"CoinSorterModel", "isStep", "(I)Z"⟩ ∈ gd_L := gd_at 1760 (by decide +kernel) (by decide +kernel)
theorem gw_1761 : Cond.code ⟨"CoinSorterModel", "isStep", "(I)Z"⟩ prog_12_method_81_code 2 (some .boolean) ∈ gd_L := gd_at 1761 (by decide +kernel) (by decide +kernel)
theorem gw_1762 : Cond.methodLink "CoinSorterModel" 286 ⟨"CoinSorterModel", "doStep", "(I)V"⟩ ∈ gd_L := gd_at 1762 (by decide +kernel) (by decide +kernel)
theorem gw_1764 : Cond.instanceMethod ⟨"CoinSorterModel", "doStep", "(I)V"⟩ ∈ gd_L := gd_at 1764 (by decide +kernel) (by decide +kernel)
theorem gw_1765 : Cond.code ⟨"CoinSorterModel", "doStep", "(I)V"⟩ prog_12_method_82_code 3 none ∈ gd_L := gd_at 1765 (by decide +kernel) (by decide +kernel)
theorem gw_1766 : Cond.methodLink "CoinSorterModel" 274 ⟨"CoinSorterModel", "takeFromLoop", "(I)V"⟩ ∈ gd_L := gd_at 1766 (by decide +kernel) (by decide +kernel)
theorem gw_1768 : Cond.instanceMethod ⟨"CoinSorterModel", "takeFromLoop", "(I)V"⟩ ∈ gd_L := gd_at 1768 (by decide +kernel) (by decide +kernel)
theorem gw_1769 : Cond.code ⟨"CoinSorterModel", "takeFromLoop", "(I)V"⟩ prog_12_method_79_code 3 none ∈ gd_L := gd_at 1769 (by decide +kernel) (by decide +kernel)
theorem gw_1770 : Cond.methodLink "CoinSorterModel" 277 ⟨"CoinSorterModel", "note", "(I)V"⟩ ∈ gd_L := gd_at 1770 (by decide +kernel) (by decide +kernel)
theorem gw_1772 : Cond.instanceMethod ⟨"CoinSorterModel", "note", "(I)V"⟩ ∈ gd_L := gd_at 1772 (by decide +kernel) (by decide +kernel)
theorem gw_1773 : Cond.code ⟨"CoinSorterModel", "note", "(I)V"⟩ prog_12_method_80_code 3 none ∈ gd_L := gd_at 1773 (by decide +kernel) (by decide +kernel)
theorem gw_1774 : Cond.methodLink "CoinSorterModel" 280 ⟨"CoinSorterModel", "takeFromHopper", "()V"⟩ ∈ gd_L := gd_at 1774 (by decide +kernel) (by decide +kernel)
theorem gw_1776 : Cond.instanceMethod ⟨"CoinSorterModel", "takeFromHopper", "()V"⟩ ∈ gd_L := gd_at 1776 (by decide +kernel) (by decide +kernel)
theorem gw_1777 : Cond.code ⟨"CoinSorterModel", "takeFromHopper", "()V"⟩ prog_12_method_78_code 2 none ∈ gd_L := gd_at 1777 (by decide +kernel) (by decide +kernel)
theorem gw_1782 : Cond.constantLong "CoinSorterModel" 289 100 ∈ gd_L := gd_at 1782 (by decide +kernel) (by decide +kernel)
theorem gw_1795 : Cond.constantLong "CoinSorterModel" 291 200 ∈ gd_L := gd_at 1795 (by decide +kernel) (by decide +kernel)
theorem gn_133 : Cond.methodLinkNest "CoinSorter" 15 ⟨"CoinSorter$Parser", "<init>", "()V"⟩ "CoinSorter" ∈ ns_L := ns_at 133 (by decide +kernel) (by decide +kernel)
theorem gn_143 : Cond.fieldLinkNest "CoinSorter" 96 "CoinSorter$Parser" "error" "I" "CoinSorter" ∈ ns_L := ns_at 143 (by decide +kernel) (by decide +kernel)
theorem gn_169 : Cond.methodLinkNest "CoinSorter" 22 ⟨"CoinSorter$Config", "<init>", "()V"⟩ "CoinSorter" ∈ ns_L := ns_at 169 (by decide +kernel) (by decide +kernel)
theorem gn_175 : Cond.methodLinkNest "CoinSorter$Config" 11 ⟨"CoinSorter$Kinds", "<init>", "(I)V"⟩ "CoinSorter" ∈ ns_L := ns_at 175 (by decide +kernel) (by decide +kernel)
theorem gn_181 : Cond.methodLinkNest "CoinSorter$Kinds" 11 ⟨"CoinSorter$Row", "<init>", "(I)V"⟩ "CoinSorter" ∈ ns_L := ns_at 181 (by decide +kernel) (by decide +kernel)
theorem gn_190 : Cond.fieldLinkNest "CoinSorter$Kinds" 32 "CoinSorter$Row" "size" "I" "CoinSorter" ∈ ns_L := ns_at 190 (by decide +kernel) (by decide +kernel)
theorem gn_191 : Cond.fieldLinkNest "CoinSorter$Payout" 37 "CoinSorter$Row" "size" "I" "CoinSorter" ∈ ns_L := ns_at 191 (by decide +kernel) (by decide +kernel)
theorem gn_192 : Cond.fieldLinkNest "CoinSorter$State" 76 "CoinSorter$Row" "size" "I" "CoinSorter" ∈ ns_L := ns_at 192 (by decide +kernel) (by decide +kernel)
theorem gn_193 : Cond.fieldLinkNest "CoinSorter$Tuning" 29 "CoinSorter$Row" "size" "I" "CoinSorter" ∈ ns_L := ns_at 193 (by decide +kernel) (by decide +kernel)
theorem gn_194 : Cond.fieldLinkNest "CoinSorter" 124 "CoinSorter$Row" "size" "I" "CoinSorter" ∈ ns_L := ns_at 194 (by decide +kernel) (by decide +kernel)
theorem gn_202 : Cond.fieldLinkNest "CoinSorter$Parser" 92 "CoinSorter$Kinds" "values" "LCoinSorter$Row;" "CoinSorter" ∈ ns_L := ns_at 202 (by decide +kernel) (by decide +kernel)
theorem gn_203 : Cond.fieldLinkNest "CoinSorter" 129 "CoinSorter$Kinds" "values" "LCoinSorter$Row;" "CoinSorter" ∈ ns_L := ns_at 203 (by decide +kernel) (by decide +kernel)
theorem gn_205 : Cond.fieldLinkNest "CoinSorter$Parser" 108 "CoinSorter$Kinds" "diameters" "LCoinSorter$Row;" "CoinSorter" ∈ ns_L := ns_at 205 (by decide +kernel) (by decide +kernel)
theorem gn_206 : Cond.fieldLinkNest "CoinSorter" 283 "CoinSorter$Kinds" "diameters" "LCoinSorter$Row;" "CoinSorter" ∈ ns_L := ns_at 206 (by decide +kernel) (by decide +kernel)
theorem gn_208 : Cond.fieldLinkNest "CoinSorter$Parser" 111 "CoinSorter$Kinds" "diameterTolerances" "LCoinSorter$Row;" "CoinSorter" ∈ ns_L := ns_at 208 (by decide +kernel) (by decide +kernel)
theorem gn_210 : Cond.fieldLinkNest "CoinSorter$Parser" 114 "CoinSorter$Kinds" "alloys" "LCoinSorter$Row;" "CoinSorter" ∈ ns_L := ns_at 210 (by decide +kernel) (by decide +kernel)
theorem gn_211 : Cond.fieldLinkNest "CoinSorter" 286 "CoinSorter$Kinds" "alloys" "LCoinSorter$Row;" "CoinSorter" ∈ ns_L := ns_at 211 (by decide +kernel) (by decide +kernel)
theorem gn_213 : Cond.fieldLinkNest "CoinSorter$Parser" 117 "CoinSorter$Kinds" "alloyTolerances" "LCoinSorter$Row;" "CoinSorter" ∈ ns_L := ns_at 213 (by decide +kernel) (by decide +kernel)
theorem gn_226 : Cond.methodLinkNest "CoinSorter$Config" 25 ⟨"CoinSorter$Row", "<init>", "(I)V"⟩ "CoinSorter" ∈ ns_L := ns_at 226 (by decide +kernel) (by decide +kernel)
theorem gn_228 : Cond.fieldLinkNest "CoinSorter$Judge" 10 "CoinSorter$Config" "types" "LCoinSorter$Kinds;" "CoinSorter" ∈ ns_L := ns_at 228 (by decide +kernel) (by decide +kernel)
theorem gn_229 : Cond.fieldLinkNest "CoinSorter$Parser" 47 "CoinSorter$Config" "types" "LCoinSorter$Kinds;" "CoinSorter" ∈ ns_L := ns_at 229 (by decide +kernel) (by decide +kernel)
theorem gn_230 : Cond.fieldLinkNest "CoinSorter" 102 "CoinSorter$Config" "types" "LCoinSorter$Kinds;" "CoinSorter" ∈ ns_L := ns_at 230 (by decide +kernel) (by decide +kernel)
theorem gn_232 : Cond.fieldLinkNest "CoinSorter$Judge" 26 "CoinSorter$Config" "fakes" "LCoinSorter$Kinds;" "CoinSorter" ∈ ns_L := ns_at 232 (by decide +kernel) (by decide +kernel)
theorem gn_233 : Cond.fieldLinkNest "CoinSorter$Parser" 59 "CoinSorter$Config" "fakes" "LCoinSorter$Kinds;" "CoinSorter" ∈ ns_L := ns_at 233 (by decide +kernel) (by decide +kernel)
theorem gn_234 : Cond.fieldLinkNest "CoinSorter" 117 "CoinSorter$Config" "fakes" "LCoinSorter$Kinds;" "CoinSorter" ∈ ns_L := ns_at 234 (by decide +kernel) (by decide +kernel)
theorem gn_236 : Cond.fieldLinkNest "CoinSorter$Payout" 41 "CoinSorter$Config" "binTypes" "LCoinSorter$Row;" "CoinSorter" ∈ ns_L := ns_at 236 (by decide +kernel) (by decide +kernel)
theorem gn_237 : Cond.fieldLinkNest "CoinSorter$State" 73 "CoinSorter$Config" "binTypes" "LCoinSorter$Row;" "CoinSorter" ∈ ns_L := ns_at 237 (by decide +kernel) (by decide +kernel)
theorem gn_238 : Cond.fieldLinkNest "CoinSorter$Parser" 120 "CoinSorter$Config" "binTypes" "LCoinSorter$Row;" "CoinSorter" ∈ ns_L := ns_at 238 (by decide +kernel) (by decide +kernel)
theorem gn_239 : Cond.fieldLinkNest "CoinSorter" 120 "CoinSorter$Config" "binTypes" "LCoinSorter$Row;" "CoinSorter" ∈ ns_L := ns_at 239 (by decide +kernel) (by decide +kernel)
theorem gn_241 : Cond.fieldLinkNest "CoinSorter$Parser" 127 "CoinSorter$Config" "binSizes" "LCoinSorter$Row;" "CoinSorter" ∈ ns_L := ns_at 241 (by decide +kernel) (by decide +kernel)
theorem gn_242 : Cond.fieldLinkNest "CoinSorter" 136 "CoinSorter$Config" "binSizes" "LCoinSorter$Row;" "CoinSorter" ∈ ns_L := ns_at 242 (by decide +kernel) (by decide +kernel)
theorem gn_244 : Cond.fieldLinkNest "CoinSorter$Parser" 78 "CoinSorter$Config" "gate" "I" "CoinSorter" ∈ ns_L := ns_at 244 (by decide +kernel) (by decide +kernel)
theorem gn_245 : Cond.fieldLinkNest "CoinSorter" 309 "CoinSorter$Config" "gate" "I" "CoinSorter" ∈ ns_L := ns_at 245 (by decide +kernel) (by decide +kernel)
theorem gn_247 : Cond.fieldLinkNest "CoinSorter$Parser" 82 "CoinSorter$Config" "loopCapacity" "I" "CoinSorter" ∈ ns_L := ns_at 247 (by decide +kernel) (by decide +kernel)
theorem gn_248 : Cond.fieldLinkNest "CoinSorter" 315 "CoinSorter$Config" "loopCapacity" "I" "CoinSorter" ∈ ns_L := ns_at 248 (by decide +kernel) (by decide +kernel)
theorem gn_250 : Cond.fieldLinkNest "CoinSorter$State" 60 "CoinSorter$Config" "margin" "I" "CoinSorter" ∈ ns_L := ns_at 250 (by decide +kernel) (by decide +kernel)
theorem gn_251 : Cond.fieldLinkNest "CoinSorter$Parser" 87 "CoinSorter$Config" "margin" "I" "CoinSorter" ∈ ns_L := ns_at 251 (by decide +kernel) (by decide +kernel)
theorem gn_269 : Cond.methodLinkNest "CoinSorter" 32 ⟨"CoinSorter$State", "<init>", "()V"⟩ "CoinSorter" ∈ ns_L := ns_at 269 (by decide +kernel) (by decide +kernel)
theorem gn_274 : Cond.methodLinkNest "CoinSorter$State" 17 ⟨"CoinSorter$Row", "<init>", "(I)V"⟩ "CoinSorter" ∈ ns_L := ns_at 274 (by decide +kernel) (by decide +kernel)
theorem gn_275 : Cond.methodLinkNest "CoinSorter$State" 33 ⟨"CoinSorter$Row", "fillWithZeros", "(I)V"⟩ "CoinSorter" ∈ ns_L := ns_at 275 (by decide +kernel) (by decide +kernel)
theorem gn_618 : Cond.fieldLinkNest "CoinSorter" 159 "CoinSorter$State" "diameterOffset" "I" "CoinSorter" ∈ ns_L := ns_at 618 (by decide +kernel) (by decide +kernel)
theorem gn_620 : Cond.fieldLinkNest "CoinSorter" 162 "CoinSorter$State" "alloyOffset" "I" "CoinSorter" ∈ ns_L := ns_at 620 (by decide +kernel) (by decide +kernel)
theorem gn_622 : Cond.fieldLinkNest "CoinSorter" 170 "CoinSorter$State" "margin" "I" "CoinSorter" ∈ ns_L := ns_at 622 (by decide +kernel) (by decide +kernel)
theorem gn_624 : Cond.fieldLinkNest "CoinSorter" 192 "CoinSorter$State" "jammed" "Z" "CoinSorter" ∈ ns_L := ns_at 624 (by decide +kernel) (by decide +kernel)
theorem gn_626 : Cond.fieldLinkNest "CoinSorter" 208 "CoinSorter$State" "stepCount" "I" "CoinSorter" ∈ ns_L := ns_at 626 (by decide +kernel) (by decide +kernel)
theorem gn_628 : Cond.fieldLinkNest "CoinSorter" 186 "CoinSorter$State" "hopper" "LCoinSorter$Row;" "CoinSorter" ∈ ns_L := ns_at 628 (by decide +kernel) (by decide +kernel)
theorem gn_630 : Cond.fieldLinkNest "CoinSorter" 189 "CoinSorter$State" "loop" "LCoinSorter$Row;" "CoinSorter" ∈ ns_L := ns_at 630 (by decide +kernel) (by decide +kernel)
theorem gn_632 : Cond.fieldLinkNest "CoinSorter" 199 "CoinSorter$State" "binCoins" "LCoinSorter$Row;" "CoinSorter" ∈ ns_L := ns_at 632 (by decide +kernel) (by decide +kernel)
theorem gn_634 : Cond.fieldLinkNest "CoinSorter" 202 "CoinSorter$State" "rejected" "LCoinSorter$Row;" "CoinSorter" ∈ ns_L := ns_at 634 (by decide +kernel) (by decide +kernel)
theorem gn_636 : Cond.fieldLinkNest "CoinSorter" 211 "CoinSorter$State" "records" "LCoinSorter$Row;" "CoinSorter" ∈ ns_L := ns_at 636 (by decide +kernel) (by decide +kernel)
theorem gn_638 : Cond.fieldLinkNest "CoinSorter" 214 "CoinSorter$State" "bagTypes" "LCoinSorter$Row;" "CoinSorter" ∈ ns_L := ns_at 638 (by decide +kernel) (by decide +kernel)
theorem gn_640 : Cond.fieldLinkNest "CoinSorter" 217 "CoinSorter$State" "bagCoins" "LCoinSorter$Row;" "CoinSorter" ∈ ns_L := ns_at 640 (by decide +kernel) (by decide +kernel)
theorem gn_642 : Cond.fieldLinkNest "CoinSorter" 223 "CoinSorter$State" "bagAudits" "LCoinSorter$Row;" "CoinSorter" ∈ ns_L := ns_at 642 (by decide +kernel) (by decide +kernel)
theorem gn_644 : Cond.fieldLinkNest "CoinSorter" 248 "CoinSorter$State" "sampleCoins" "LCoinSorter$Row;" "CoinSorter" ∈ ns_L := ns_at 644 (by decide +kernel) (by decide +kernel)
theorem gn_646 : Cond.fieldLinkNest "CoinSorter" 254 "CoinSorter$State" "sampleLabels" "LCoinSorter$Row;" "CoinSorter" ∈ ns_L := ns_at 646 (by decide +kernel) (by decide +kernel)
theorem gn_680 : Cond.methodLinkNest "CoinSorter" 39 ⟨"CoinSorter$History", "<init>", "()V"⟩ "CoinSorter" ∈ ns_L := ns_at 680 (by decide +kernel) (by decide +kernel)
theorem gn_686 : Cond.methodLinkNest "CoinSorter$History" 17 ⟨"CoinSorter$State", "<init>", "()V"⟩ "CoinSorter" ∈ ns_L := ns_at 686 (by decide +kernel) (by decide +kernel)
theorem gn_690 : Cond.fieldLinkNest "CoinSorter" 346 "CoinSorter$History" "count" "I" "CoinSorter" ∈ ns_L := ns_at 690 (by decide +kernel) (by decide +kernel)
theorem gn_700 : Cond.methodLinkNest "CoinSorter" 54 ⟨"CoinSorter$Judge", "<init>", "()V"⟩ "CoinSorter" ∈ ns_L := ns_at 700 (by decide +kernel) (by decide +kernel)
theorem gn_706 : Cond.fieldLinkNest "CoinSorter" 269 "CoinSorter$Judge" "gap" "I" "CoinSorter" ∈ ns_L := ns_at 706 (by decide +kernel) (by decide +kernel)
theorem gn_715 : Cond.methodLinkNest "CoinSorter" 61 ⟨"CoinSorter$Payout", "<init>", "()V"⟩ "CoinSorter" ∈ ns_L := ns_at 715 (by decide +kernel) (by decide +kernel)
theorem gn_720 : Cond.methodLinkNest "CoinSorter$Payout" 24 ⟨"CoinSorter$Row", "<init>", "(I)V"⟩ "CoinSorter" ∈ ns_L := ns_at 720 (by decide +kernel) (by decide +kernel)
theorem gn_726 : Cond.fieldLinkNest "CoinSorter" 237 "CoinSorter$Payout" "coins" "LCoinSorter$Row;" "CoinSorter" ∈ ns_L := ns_at 726 (by decide +kernel) (by decide +kernel)
theorem gn_741 : Cond.methodLinkNest "CoinSorter" 68 ⟨"CoinSorter$Tuning", "<init>", "()V"⟩ "CoinSorter" ∈ ns_L := ns_at 741 (by decide +kernel) (by decide +kernel)
theorem gn_746 : Cond.methodLinkNest "CoinSorter$Tuning" 11 ⟨"CoinSorter$Row", "<init>", "(I)V"⟩ "CoinSorter" ∈ ns_L := ns_at 746 (by decide +kernel) (by decide +kernel)
theorem gn_803 : Cond.methodLinkNest "CoinSorter" 81 ⟨"CoinSorter$Config", "reset", "()V"⟩ "CoinSorter" ∈ ns_L := ns_at 803 (by decide +kernel) (by decide +kernel)
theorem gn_807 : Cond.methodLinkNest "CoinSorter$Config" 43 ⟨"CoinSorter$Kinds", "empty", "()V"⟩ "CoinSorter" ∈ ns_L := ns_at 807 (by decide +kernel) (by decide +kernel)
theorem gn_811 : Cond.methodLinkNest "CoinSorter$Kinds" 36 ⟨"CoinSorter$Row", "empty", "()V"⟩ "CoinSorter" ∈ ns_L := ns_at 811 (by decide +kernel) (by decide +kernel)
theorem gn_815 : Cond.methodLinkNest "CoinSorter$Config" 46 ⟨"CoinSorter$Row", "empty", "()V"⟩ "CoinSorter" ∈ ns_L := ns_at 815 (by decide +kernel) (by decide +kernel)
theorem gn_816 : Cond.methodLinkNest "CoinSorter" 84 ⟨"CoinSorter$Parser", "begin", "([BI)V"⟩ "CoinSorter" ∈ ns_L := ns_at 816 (by decide +kernel) (by decide +kernel)
theorem gn_820 : Cond.methodLinkNest "CoinSorter" 88 ⟨"CoinSorter$Parser", "hasStatement", "()Z"⟩ "CoinSorter" ∈ ns_L := ns_at 820 (by decide +kernel) (by decide +kernel)
theorem gn_839 : Cond.methodLinkNest "CoinSorter" 92 ⟨"CoinSorter$Parser", "readStatement", "(LCoinSorter$Config;)V"⟩ "CoinSorter" ∈ ns_L := ns_at 839 (by decide +kernel) (by decide +kernel)
theorem gn_877 : Cond.methodLinkNest "CoinSorter$Parser" 98 ⟨"CoinSorter$Row", "isFull", "()Z"⟩ "CoinSorter" ∈ ns_L := ns_at 877 (by decide +kernel) (by decide +kernel)
theorem gn_893 : Cond.methodLinkNest "CoinSorter$Parser" 104 ⟨"CoinSorter$Row", "add", "(I)V"⟩ "CoinSorter" ∈ ns_L := ns_at 893 (by decide +kernel) (by decide +kernel)
theorem gn_903 : Cond.methodLinkNest "CoinSorter$Parser" 123 ⟨"CoinSorter$Kinds", "count", "()I"⟩ "CoinSorter" ∈ ns_L := ns_at 903 (by decide +kernel) (by decide +kernel)
theorem gn_918 : Cond.methodLinkNest "CoinSorter" 112 ⟨"CoinSorter$State", "reset", "(LCoinSorter$Config;)V"⟩ "CoinSorter" ∈ ns_L := ns_at 918 (by decide +kernel) (by decide +kernel)
theorem gn_922 : Cond.methodLinkNest "CoinSorter$State" 70 ⟨"CoinSorter$Row", "empty", "()V"⟩ "CoinSorter" ∈ ns_L := ns_at 922 (by decide +kernel) (by decide +kernel)
theorem gn_923 : Cond.methodLinkNest "CoinSorter" 114 ⟨"CoinSorter$History", "forget", "()V"⟩ "CoinSorter" ∈ ns_L := ns_at 923 (by decide +kernel) (by decide +kernel)
theorem gn_927 : Cond.methodLinkNest "CoinSorter" 106 ⟨"CoinSorter$Kinds", "count", "()I"⟩ "CoinSorter" ∈ ns_L := ns_at 927 (by decide +kernel) (by decide +kernel)
theorem gn_944 : Cond.methodLinkNest "CoinSorter" 132 ⟨"CoinSorter$Row", "at", "(I)I"⟩ "CoinSorter" ∈ ns_L := ns_at 944 (by decide +kernel) (by decide +kernel)
theorem gn_1004 : Cond.methodLinkNest "CoinSorter" 183 ⟨"CoinSorter$Row", "has", "(I)Z"⟩ "CoinSorter" ∈ ns_L := ns_at 1004 (by decide +kernel) (by decide +kernel)
theorem gn_1022 : Cond.methodLinkNest "CoinSorter" 176 ⟨"CoinSorter$Judge", "examine", "(LCoinSorter$Config;II)V"⟩ "CoinSorter" ∈ ns_L := ns_at 1022 (by decide +kernel) (by decide +kernel)
theorem gn_1027 : Cond.methodLinkNest "CoinSorter$Judge" 16 ⟨"CoinSorter$Kinds", "count", "()I"⟩ "CoinSorter" ∈ ns_L := ns_at 1027 (by decide +kernel) (by decide +kernel)
theorem gn_1028 : Cond.methodLinkNest "CoinSorter$Judge" 22 ⟨"CoinSorter$Kinds", "scoreOf", "(III)I"⟩ "CoinSorter" ∈ ns_L := ns_at 1028 (by decide +kernel) (by decide +kernel)
theorem gn_1032 : Cond.methodLinkNest "CoinSorter$Kinds" 39 ⟨"CoinSorter$Row", "at", "(I)I"⟩ "CoinSorter" ∈ ns_L := ns_at 1032 (by decide +kernel) (by decide +kernel)
theorem gn_1038 : Cond.methodLinkNest "CoinSorter" 180 ⟨"CoinSorter$Judge", "verdictAt", "(I)I"⟩ "CoinSorter" ∈ ns_L := ns_at 1038 (by decide +kernel) (by decide +kernel)
theorem gn_1108 : Cond.methodLinkNest "CoinSorter" 240 ⟨"CoinSorter$Payout", "takeStock", "(LCoinSorter$Config;LCoinSorter$Row;)V"⟩ "CoinSorter" ∈ ns_L := ns_at 1108 (by decide +kernel) (by decide +kernel)
theorem gn_1115 : Cond.methodLinkNest "CoinSorter$Payout" 46 ⟨"CoinSorter$Row", "at", "(I)I"⟩ "CoinSorter" ∈ ns_L := ns_at 1115 (by decide +kernel) (by decide +kernel)
theorem gn_1116 : Cond.methodLinkNest "CoinSorter" 244 ⟨"CoinSorter$Payout", "plan", "(LCoinSorter$Row;I)I"⟩ "CoinSorter" ∈ ns_L := ns_at 1116 (by decide +kernel) (by decide +kernel)
theorem gn_1137 : Cond.methodLinkNest "CoinSorter$Payout" 77 ⟨"CoinSorter$Row", "empty", "()V"⟩ "CoinSorter" ∈ ns_L := ns_at 1137 (by decide +kernel) (by decide +kernel)
theorem gn_1138 : Cond.methodLinkNest "CoinSorter$Payout" 80 ⟨"CoinSorter$Row", "add", "(I)V"⟩ "CoinSorter" ∈ ns_L := ns_at 1138 (by decide +kernel) (by decide +kernel)
theorem gn_1161 : Cond.methodLinkNest "CoinSorter" 267 ⟨"CoinSorter$Tuning", "begin", "()V"⟩ "CoinSorter" ∈ ns_L := ns_at 1161 (by decide +kernel) (by decide +kernel)
theorem gn_1165 : Cond.methodLinkNest "CoinSorter$Tuning" 23 ⟨"CoinSorter$Row", "empty", "()V"⟩ "CoinSorter" ∈ ns_L := ns_at 1165 (by decide +kernel) (by decide +kernel)
theorem gn_1166 : Cond.methodLinkNest "CoinSorter" 272 ⟨"CoinSorter$Tuning", "add", "(II)V"⟩ "CoinSorter" ∈ ns_L := ns_at 1166 (by decide +kernel) (by decide +kernel)
theorem gn_1170 : Cond.methodLinkNest "CoinSorter$Tuning" 26 ⟨"CoinSorter$Row", "add", "(I)V"⟩ "CoinSorter" ∈ ns_L := ns_at 1170 (by decide +kernel) (by decide +kernel)
theorem gn_1171 : Cond.methodLinkNest "CoinSorter" 276 ⟨"CoinSorter$Tuning", "best", "()I"⟩ "CoinSorter" ∈ ns_L := ns_at 1171 (by decide +kernel) (by decide +kernel)
theorem gn_1175 : Cond.methodLinkNest "CoinSorter$Tuning" 33 ⟨"CoinSorter$Row", "at", "(I)I"⟩ "CoinSorter" ∈ ns_L := ns_at 1175 (by decide +kernel) (by decide +kernel)
theorem gn_1187 : Cond.methodLinkNest "CoinSorter" 279 ⟨"CoinSorter$History", "push", "(LCoinSorter$State;)V"⟩ "CoinSorter" ∈ ns_L := ns_at 1187 (by decide +kernel) (by decide +kernel)
theorem gn_1194 : Cond.methodLinkNest "CoinSorter$History" 31 ⟨"CoinSorter$State", "copyFrom", "(LCoinSorter$State;)V"⟩ "CoinSorter" ∈ ns_L := ns_at 1194 (by decide +kernel) (by decide +kernel)
theorem gn_1198 : Cond.methodLinkNest "CoinSorter$State" 90 ⟨"CoinSorter$Row", "copyFrom", "(LCoinSorter$Row;)V"⟩ "CoinSorter" ∈ ns_L := ns_at 1198 (by decide +kernel) (by decide +kernel)
theorem gn_1211 : Cond.methodLinkNest "CoinSorter" 289 ⟨"CoinSorter$Row", "isFull", "()Z"⟩ "CoinSorter" ∈ ns_L := ns_at 1211 (by decide +kernel) (by decide +kernel)
theorem gn_1215 : Cond.methodLinkNest "CoinSorter" 295 ⟨"CoinSorter$Row", "add", "(I)V"⟩ "CoinSorter" ∈ ns_L := ns_at 1215 (by decide +kernel) (by decide +kernel)
theorem gn_1224 : Cond.methodLinkNest "CoinSorter" 318 ⟨"CoinSorter$Row", "removeAt", "(I)I"⟩ "CoinSorter" ∈ ns_L := ns_at 1224 (by decide +kernel) (by decide +kernel)
theorem gn_1229 : Cond.methodLinkNest "CoinSorter" 321 ⟨"CoinSorter$Row", "increase", "(II)V"⟩ "CoinSorter" ∈ ns_L := ns_at 1229 (by decide +kernel) (by decide +kernel)
theorem gn_1233 : Cond.methodLinkNest "CoinSorter" 324 ⟨"CoinSorter$State", "addRecord", "(I)V"⟩ "CoinSorter" ∈ ns_L := ns_at 1233 (by decide +kernel) (by decide +kernel)
theorem gn_1237 : Cond.methodLinkNest "CoinSorter$State" 79 ⟨"CoinSorter$Row", "isFull", "()Z"⟩ "CoinSorter" ∈ ns_L := ns_at 1237 (by decide +kernel) (by decide +kernel)
theorem gn_1238 : Cond.methodLinkNest "CoinSorter$State" 83 ⟨"CoinSorter$Row", "removeAt", "(I)I"⟩ "CoinSorter" ∈ ns_L := ns_at 1238 (by decide +kernel) (by decide +kernel)
theorem gn_1239 : Cond.methodLinkNest "CoinSorter$State" 87 ⟨"CoinSorter$Row", "add", "(I)V"⟩ "CoinSorter" ∈ ns_L := ns_at 1239 (by decide +kernel) (by decide +kernel)
theorem gn_1265 : Cond.methodLinkNest "CoinSorter" 342 ⟨"CoinSorter$History", "pop", "(LCoinSorter$State;)Z"⟩ "CoinSorter" ∈ ns_L := ns_at 1265 (by decide +kernel) (by decide +kernel)
theorem gn_1273 : Cond.methodLinkNest "CoinSorter" 348 ⟨"CoinSorter$State", "copyFrom", "(LCoinSorter$State;)V"⟩ "CoinSorter" ∈ ns_L := ns_at 1273 (by decide +kernel) (by decide +kernel)
end
section
section MPW
variable {p : Program} {l : Launch} {e : Env} {R : Room} {s : State} {m : MethodId} {args : Array Value} {below : List Frame} {meth : Method} {c : Code} {H : Heap} {locs : List Loc} {cells slots : Nat} {Q : State → Prop}
variable {cc : ByteArray} {pc : Nat} {ls : Array Slot} {rest : List Value} {D : va_G} {cl : List vw_C} {A : Nat → Prop} {a : Nat} {tys : List (ClassId × FieldType)} {ws : va_W} {H0 : Heap}
/-! stores, with the heap's size told: after the kit's va_put, va_putN, va_putF, va_iast .. -/
theorem mp_put (hexec : p.tables.exec = Jvm.exec) (hb : c.code = cc) {own ref C : String} {T : u_T} {N ci index : Nat} {Ts : List Cond} (hts : ∀ w ∈ Ts, w.before args s = true) (hin : ∀ w ∈ u_ws C T N, w ∈ Ts) (ty0 : Nat → FieldType) (hty : ∀ k, k < N → parseFieldDescriptor (T k).2.2.1 = some (ty0 k)) (hnm : ∀ a, a < N → ∀ b, b < N → a ≠ b → (T a).2.1 ≠ (T b).2.1) (hown : s.vm.findClass own = some m.cls) (hK : va_K D cl tys s) (hP : va_P D cl ws H) (hD : va_D A ws) (hS0 : va_S A H0 H locs) (q0 : Nat) {fs : List Value} (he : ws[q0]? = some (a, .inr (ci, fs))) (hc : cl[ci]? = some (C, T, N)) (k : Nat) (hk : k < N)
    (hlink : (Cond.fieldLink own index ref (T k).2.1 (T k).2.2.1).before args s = true ∨ ∃ host, (Cond.fieldLinkNest own index ref (T k).2.1 (T k).2.2.1 host).before args s = true) (hsame : ∀ x, s.fieldFound? (T k).1 (T k).2.1 (T k).2.2.1 = some x → s.fieldFound? ref (T k).2.1 (T k).2.2.1 = some x) (hfin : (T k).2.2.2 = false) {ty : FieldType} {v : Value} (hd : parseFieldDescriptor (T k).2.2.1 = some ty) (hn : narrow ty v = v) (hfit : fits ty v = true) (hl : k < fs.length)
    (hdg : decode cc pc = .ok (.putfield index, 3)) (kk : ∀ (H1 : Heap) (locs1 : List Loc), va_P D cl (ws.set q0 (a, .inr (ci, fs.set k v))) H1 → H1.size = H.size → va_S A H0 H1 locs1 → W p l e R s m args below meth c H1 locs1 cells slots Q (F0 m (pc + 3) ls rest)) : W p l e R s m args below meth c H locs cells slots Q (F0 m pc ls (v :: .ref a :: rest)) := by
  have hap := va_apart (own := own) hts hin ty0 hty hnm hK hc
  obtain ⟨r, h1, cell, q1, q2, q3, q4⟩ := hP q0 _ he
  have hr : r = (C, T, N) := Option.some.inj (h1.symm.trans hc)
  subst hr
  obtain ⟨hS, hfc, kC, hkC, hkind⟩ := hK.1 ci _ hc
  obtain ⟨cf, kf, fi, f, hi, hsl⟩ := hS k hk
  have hlay := hts _ (hin _ (u_in_lay hk))
  unfold u_lay at hlay
  rw [if_neg (by rw [hfin]; decide)] at hlay
  have hst := (u_facts hfc hkC (u_lays hts hin hk) hi).1
  have h6 := u_store hfc hkC hkind hlay hi hd hn hfit
  rcases hlink with hlink | ⟨host, hlink⟩
  · refine W.putK hexec hb (f := f) ⟨hown, hlink, ⟨_, _, _, hsame _ hi⟩, hst⟩ (by rw [q2]; exact h6) q1 q3 (by rw [hsl]; exact k2_hasslot (q4 k hk)) rfl rfl hdg fun H' e1 e2 e3 => ?_
    rw [hsl] at e1 ⊢
    exact kk H' _ (hP.set hD he ⟨_, hc, t_OB.to (V := updV (vp_V fs) k v) ⟨_, e1, q2, q3, t_set q4 hap hk v⟩ (fun j _ => vp_updV_set hl v j)⟩ e3) e2 (hS0.put e2 e3 (hD.2 q0 _ he))
  · refine va_WputK hexec hb (f := f) hown hlink (hsame _ hi) hst (by rw [q2]; exact h6) q1 q3 (by rw [hsl]; exact k2_hasslot (q4 k hk)) rfl rfl hdg fun H' e1 e2 e3 => ?_
    rw [hsl] at e1 ⊢
    exact kk H' _ (hP.set hD he ⟨_, hc, t_OB.to (V := updV (vp_V fs) k v) ⟨_, e1, q2, q3, t_set q4 hap hk v⟩ (fun j _ => vp_updV_set hl v j)⟩ e3) e2 (hS0.put e2 e3 (hD.2 q0 _ he))
theorem mp_putF (hexec : p.tables.exec = Jvm.exec) (hb : c.code = cc) {own ref C : String} {T : u_T} {N ci index : Nat} {Ts : List Cond} (hts : ∀ w ∈ Ts, w.before args s = true) (hin : ∀ w ∈ u_ws C T N, w ∈ Ts) (ty0 : Nat → FieldType) (hty : ∀ k, k < N → parseFieldDescriptor (T k).2.2.1 = some (ty0 k)) (hnm : ∀ a, a < N → ∀ b, b < N → a ≠ b → (T a).2.1 ≠ (T b).2.1) (hown : s.vm.findClass own = some m.cls) (hK : va_K D cl tys s) (hP : va_P D cl ws H) (hD : va_D A ws) (hS0 : va_S A H0 H locs) (q0 : Nat) {fs : List Value} (he : ws[q0]? = some (a, .inr (ci, fs))) (hc : cl[ci]? = some (C, T, N)) (k : Nat) (hk : k < N) (hlink : (Cond.fieldLink own index ref (T k).2.1 (T k).2.2.1).before args s = true) (hsame : ∀ x, s.fieldFound? (T k).1 (T k).2.1 (T k).2.2.1 = some x → s.fieldFound? ref (T k).2.1 (T k).2.2.1 = some x) (hfin : (T k).2.2.2 = true) (hin2 : meth.name = "<init>") (hdecl : (T k).1 = own) {ty : FieldType} {v : Value} (hd : parseFieldDescriptor (T k).2.2.1 = some ty) (hn : narrow ty v = v) (hfit : fits ty v = true) (hl : k < fs.length)
    (hdg : decode cc pc = .ok (.putfield index, 3)) (kk : ∀ (H1 : Heap) (locs1 : List Loc), va_P D cl (ws.set q0 (a, .inr (ci, fs.set k v))) H1 → H1.size = H.size → va_S A H0 H1 locs1 → W p l e R s m args below meth c H1 locs1 cells slots Q (F0 m (pc + 3) ls rest)) : W p l e R s m args below meth c H locs cells slots Q (F0 m pc ls (v :: .ref a :: rest)) := by
  have hap := va_apart (own := own) hts hin ty0 hty hnm hK hc
  obtain ⟨r, h1, cell, q1, q2, q3, q4⟩ := hP q0 _ he
  have hr : r = (C, T, N) := Option.some.inj (h1.symm.trans hc)
  subst hr
  obtain ⟨hS, hfc, kC, hkC, hkind⟩ := hK.1 ci _ hc
  obtain ⟨cf, kf, fi, f, hi, hsl⟩ := hS k hk
  have hlay := hts _ (hin _ (u_in_lay hk))
  unfold u_lay at hlay
  rw [if_pos hfin] at hlay
  have hst := (u_facts hfc hkC (u_lays hts hin hk) hi).1
  have hcf : m.cls = cf := by
    obtain ⟨_, _, c', _, _, _, -, -, hf', -, -, -, hown2, -⟩ := Cond.laysFinal_spec hlay
    have e1 : c' = cf := by have := hi.symm.trans hf'; simp at this; exact this.1.symm
    rw [hdecl] at hown2
    rw [← e1]; exact Option.some.inj (hown.symm.trans hown2)
  have h6 := u_fits hfc hkC hkind (Or.inr hlay) hi hd hn hfit
  refine W.putFinK hexec hb hown hlink (hsame _ hi) hst hcf hin2 (by rw [q2]; exact h6) q1 q3 (by rw [hsl]; exact k2_hasslot (q4 k hk)) rfl rfl hdg fun H' e1 e2 e3 => ?_
  rw [hsl] at e1 ⊢
  exact kk H' _ (hP.set hD he ⟨_, hc, t_OB.to (V := updV (vp_V fs) k v) ⟨_, e1, q2, q3, t_set q4 hap hk v⟩ (fun j _ => vp_updV_set hl v j)⟩ e3) e2 (hS0.put e2 e3 (hD.2 q0 _ he))
theorem mp_iast (hexec : p.tables.exec = Jvm.exec) (hb : c.code = cc) (hK : va_K D cl tys s) (hP : va_P D cl ws H) (hD : va_D A ws) (hS : va_S A H0 H locs) (q0 t0 : Nat) {cA : ClassId} {n : Nat} {f : Nat → Int32} (ha : ws[q0]? = some (a, .inl (cA, n, .inl f))) (ht : tys[t0]? = some (cA, .int)) {i : Int32} {x : Int32} (hin : vp_in i n) (hdg : decode cc pc = .ok (.iastore, 1))
    (kk : ∀ (H1 : Heap) (locs1 : List Loc), va_P D cl (ws.set q0 (a, .inl (cA, n, .inl (upd f i.toNatClampNeg x)))) H1 → H1.size = H.size → va_S A H0 H1 locs1 → W p l e R s m args below meth c H1 locs1 cells slots Q (F0 m (pc + 1) ls rest)) : W p l e R s m args below meth c H locs cells slots Q (F0 m pc ls (.int x :: .int i :: .ref a :: rest)) := by
  refine W.iast hexec hb (hP q0 _ ha) ((hK.2 t0 _ ht).1 n (fun j => .int (f j))) (fun q => by cases q) (by show ¬ (i < 0 ∨ (arrV _ _ _).slots.size ≤ _); rw [arrV_size]; exact hin) rfl rfl hdg fun H1 e z oq => ?_
  refine kk H1 _ (hP.set hD ha ?_ oq) z (hS.put z oq (hD.2 q0 _ ha))
  show H1[a]? = some (vp_cell _ _)
  rw [e]
  rw [vp_cell_i, vp_cell_i, arrV_store]
  congr 2
  funext q
  by_cases hq : q = i.toNatClampNeg
  · subst hq
    simp [updV, upd]
  · simp [updV, upd, hq]
theorem mp_bast (hexec : p.tables.exec = Jvm.exec) (hb : c.code = cc) (hK : va_K D cl tys s) (hP : va_P D cl ws H) (hD : va_D A ws) (hS : va_S A H0 H locs) (q0 t0 : Nat) {cA : ClassId} {n : Nat} {f : Nat → Int32} (ha : ws[q0]? = some (a, .inl (cA, n, .inl f))) (ht : tys[t0]? = some (cA, .byte)) {i : Int32} {x : Int32} (hin : vp_in i n) (hdg : decode cc pc = .ok (.bastore, 1))
    (kk : ∀ (H1 : Heap) (locs1 : List Loc), va_P D cl (ws.set q0 (a, .inl (cA, n, .inl (upd f i.toNatClampNeg (vp_nar .byte x))))) H1 → H1.size = H.size → va_S A H0 H1 locs1 → W p l e R s m args below meth c H1 locs1 cells slots Q (F0 m (pc + 1) ls rest)) : W p l e R s m args below meth c H locs cells slots Q (F0 m pc ls (.int x :: .int i :: .ref a :: rest)) := by
  refine W.bast hexec hb (hP q0 _ ha) ((hK.2 t0 _ ht).1 n (fun j => .int (f j))) (fun q => by cases q) (by show ¬ (i < 0 ∨ (arrV _ _ _).slots.size ≤ _); rw [arrV_size]; exact hin) rfl rfl hdg fun H1 e z oq => ?_
  refine kk H1 _ (hP.set hD ha ?_ oq) z (hS.put z oq (hD.2 q0 _ ha))
  show H1[a]? = some (vp_cell _ _)
  rw [e]
  rw [vp_cell_i, vp_cell_i, arrV_store]
  congr 2
  funext q
  by_cases hq : q = i.toNatClampNeg
  · subst hq
    simp [updV, upd, vp_nar]
    try rfl
  · simp [updV, upd, hq]
theorem mp_zast (hexec : p.tables.exec = Jvm.exec) (hb : c.code = cc) (hK : va_K D cl tys s) (hP : va_P D cl ws H) (hD : va_D A ws) (hS : va_S A H0 H locs) (q0 t0 : Nat) {cA : ClassId} {n : Nat} {f : Nat → Int32} (ha : ws[q0]? = some (a, .inl (cA, n, .inl f))) (ht : tys[t0]? = some (cA, .boolean)) {i : Int32} {x : Int32} (hin : vp_in i n) (hdg : decode cc pc = .ok (.bastore, 1))
    (kk : ∀ (H1 : Heap) (locs1 : List Loc), va_P D cl (ws.set q0 (a, .inl (cA, n, .inl (upd f i.toNatClampNeg (vp_nar .boolean x))))) H1 → H1.size = H.size → va_S A H0 H1 locs1 → W p l e R s m args below meth c H1 locs1 cells slots Q (F0 m (pc + 1) ls rest)) : W p l e R s m args below meth c H locs cells slots Q (F0 m pc ls (.int x :: .int i :: .ref a :: rest)) := by
  refine W.zast hexec hb (hP q0 _ ha) ((hK.2 t0 _ ht).1 n (fun j => .int (f j))) (fun q => by cases q) (by show ¬ (i < 0 ∨ (arrV _ _ _).slots.size ≤ _); rw [arrV_size]; exact hin) rfl rfl hdg fun H1 e z oq => ?_
  refine kk H1 _ (hP.set hD ha ?_ oq) z (hS.put z oq (hD.2 q0 _ ha))
  show H1[a]? = some (vp_cell _ _)
  rw [e]
  rw [vp_cell_i, vp_cell_i, arrV_store]
  congr 2
  funext q
  by_cases hq : q = i.toNatClampNeg
  · subst hq
    simp [updV, upd, vp_nar]
    try rfl
  · simp [updV, upd, hq]
theorem mp_last (hexec : p.tables.exec = Jvm.exec) (hb : c.code = cc) (hK : va_K D cl tys s) (hP : va_P D cl ws H) (hD : va_D A ws) (hS : va_S A H0 H locs) (q0 t0 : Nat) {cA : ClassId} {n : Nat} {f : Nat → Int64} (ha : ws[q0]? = some (a, .inl (cA, n, .inr (.inl f)))) (ht : tys[t0]? = some (cA, .long)) {i : Int32} {x : Int64} (hin : vp_in i n) (hdg : decode cc pc = .ok (.lastore, 1))
    (kk : ∀ (H1 : Heap) (locs1 : List Loc), va_P D cl (ws.set q0 (a, .inl (cA, n, .inr (.inl (vp_updL f i.toNatClampNeg x))))) H1 → H1.size = H.size → va_S A H0 H1 locs1 → W p l e R s m args below meth c H1 locs1 cells slots Q (F0 m (pc + 1) ls rest)) : W p l e R s m args below meth c H locs cells slots Q (F0 m pc ls (.long x :: .int i :: .ref a :: rest)) := by
  refine W.last hexec hb (hP q0 _ ha) ((hK.2 t0 _ ht).1 n (fun j => .long (f j))) (fun q => by cases q) (by show ¬ (i < 0 ∨ (arrV _ _ _).slots.size ≤ _); rw [arrV_size]; exact hin) rfl rfl hdg fun H1 e z oq => ?_
  refine kk H1 _ (hP.set hD ha ?_ oq) z (hS.put z oq (hD.2 q0 _ ha))
  show H1[a]? = some (vp_cell _ _)
  rw [e]
  rw [vp_cell_l, vp_cell_l, arrV_store]
  congr 2
  funext q
  by_cases hq : q = i.toNatClampNeg
  · subst hq
    simp [updV, vp_updL]
  · simp [updV, vp_updL, hq]
theorem mp_astq (hexec : p.tables.exec = Jvm.exec) (hb : c.code = cc) (hK : va_K D cl tys s) (hP : va_P D cl ws H) (hD : va_D A ws) (hS : va_S A H0 H locs) (q0 t0 qk ci : Nat) {cA : ClassId} {r : vw_C} {n v : Nat} {vs : List Value} {f : Nat → Option Nat} (ha : ws[q0]? = some (a, .inl (cA, n, .inr (.inr (.inr (.inr f)))))) (ht : tys[t0]? = some (cA, .object r.1)) (hv : ws[qk]? = some (v, .inr (ci, vs))) (hc : cl[ci]? = some r) {i : Int32} (hin : vp_in i n) (hdg : decode cc pc = .ok (.aastore, 1))
    (kk : ∀ (H1 : Heap) (locs1 : List Loc), va_P D cl (ws.set q0 (a, .inl (cA, n, .inr (.inr (.inr (.inr (va_up f i.toNatClampNeg (some v)))))))) H1 → H1.size = H.size → va_S A H0 H1 locs1 → W p l e R s m args below meth c H1 locs1 cells slots Q (F0 m (pc + 1) ls rest)) : W p l e R s m args below meth c H locs cells slots Q (F0 m pc ls (.ref v :: .int i :: .ref a :: rest)) := by
  have hlt : i.toNatClampNeg < n := Nat.not_le.mp fun q => hin (Or.inr q)
  have h0 : ¬ i < 0 := fun q => hin (Or.inl q)
  obtain ⟨r', hr', cellV, g1, g2, g3, -⟩ := hP qk _ hv
  have hcls := (hK.1 ci r hc).2
  obtain ⟨kA, comp, k1, k2, k3, -⟩ := (hK.2 t0 _ ht).2
  have hcomp : comp = D.1 ci := Option.some.inj (k3.symm.trans hcls.1)
  subst hcomp
  obtain ⟨kC, hkC, -⟩ := hcls.2
  refine W.aast hexec hb (hP q0 _ ha) (fun q h => by cases h) (fun h => by cases h) k1 k2 rfl hkC ⟨h0, by show _ < (arrV _ _ _).slots.size; rw [arrV_size]; exact hlt⟩ g1 (fun q h => by rw [g3] at h; cases h) (by rw [g2]; exact hkC) (by rw [g2]; exact va_assign hcls) rfl rfl hdg fun H1 e z oq => ?_
  refine kk H1 _ (hP.set hD ha ?_ oq) z (hS.put z oq (hD.2 q0 _ ha))
  show H1[a]? = some (vp_cell _ _)
  rw [e]
  rw [vp_cell_q, vp_cell_q, arrV_store]
  congr 2
  funext q
  by_cases hq : q = i.toNatClampNeg
  · subst hq
    simp [updV, va_up, va_rf]
  · simp [updV, va_up, hq]
theorem mp_copyi (hexec : p.tables.exec = Jvm.exec) (hb : c.code = cc) (hml : c.maxLocals = ls.size) {own : String} {index : Nat} (hown : s.vm.findClass own = some m.cls) (hlink : (Cond.methodLink own index arraycopyName).before args s = true) (hnat : (Cond.native arraycopyName).before args s = true) (hstat : (Cond.static arraycopyName).before args s = true) (hini : (Cond.initialized "java/lang/System").before args s = true)
    (hK : va_K D cl tys s) (hP : va_P D cl ws H) (hD : va_D A ws) (hS : va_S A H0 H locs) (q0 q1 t0 t1 : Nat) {a0 : Nat} {c0 c1 : ClassId} {n0 n1 : Nat} {f g : Nat → Int32} {ty : FieldType} (ha0 : ws[q0]? = some (a0, .inl (c0, n0, .inl f))) (ha1 : ws[q1]? = some (a, .inl (c1, n1, .inl g))) (ht0 : tys[t0]? = some (c0, ty)) (ht1 : tys[t1]? = some (c1, ty)) (hprim : refKind ty = false)
    {sp dp n : Int32} (h1 : ¬ sp < 0) (h2 : ¬ dp < 0) (h3 : ¬ n < 0) (h4 : sp.toNatClampNeg + n.toNatClampNeg ≤ n0) (h5 : dp.toNatClampNeg + n.toNatClampNeg ≤ n1) (hfit : ∀ i, i < n.toNatClampNeg → fits ty (.int (f (sp.toNatClampNeg + i))) = true)
    (hframes : 1 ≤ R.frames) (hlocals : (rest.map fun v => v.category).sum + (nativeFrameWords "java/lang/System" "arraycopy" 5 + 11) ≤ R.locals) (hdg : decode cc pc = .ok (.invokestatic index, 3))
    (kk : ∀ (H1 : Heap) (locs1 : List Loc), va_P D cl (ws.set q1 (a, .inl (c1, n1, .inl (va_cpy f g sp.toNatClampNeg dp.toNatClampNeg n.toNatClampNeg)))) H1 → H1.size = H.size → va_S A H0 H1 locs1 → W p l e R s m args below meth c H1 locs1 cells slots Q (F0 m (pc + 3) ls rest)) : W p l e R s m args below meth c H locs cells slots Q (F0 m pc ls (.int n :: .int dp :: .ref a :: .int sp :: .ref a0 :: rest)) := by
  have nn : ∀ z : Int32, ¬ z < 0 → z.toInt = (z.toNatClampNeg : Int) := by
    intro z hz
    have hz0 : (0 : Int) ≤ z.toInt := by
      have := Int32.not_lt.mp hz
      simpa using Int32.le_iff_toInt_le.mp this
    show z.toInt = ((z.toInt.toNat : Nat) : Int)
    omega
  intro T hT X
  have hc0 : H[a0]? = some (vp_cell c0 (n0, .inl f)) := hP q0 _ ha0
  have hc1 : H[a]? = some (vp_cell c1 (n1, .inl g)) := hP q1 _ ha1
  obtain ⟨-, k0, hk0, cm0, hkk0⟩ := (hK.2 t0 _ ht0).1 n0 (fun j => .int (f j))
  obtain ⟨-, k1, hk1, cm1, hkk1⟩ := (hK.2 t1 _ ht1).1 n1 (fun j => .int (g j))
  obtain ⟨vm', X', step⟩ := X.arraycopy hexec hown hlink hnat hstat hini (src := a0) (dst := a) (cs := vp_cell c0 (n0, .inl f)) (cd := vp_cell c1 (n1, .inl g)) (srcPos := sp) (destPos := dp) (n := n) (by rw [hT]; exact hc0) (by rw [hT]; exact hc1)
    (fun _ h => by cases h) (fun _ h => by cases h) (fun h => by cases h) (fun h => by cases h) hk0 hk1 hkk0 hkk1 (by simp [hprim]) h1 h2 h3
    (by rw [nn sp h1, nn n h3]; show ¬ _ > ((arrV c0 n0 (fun j => .int (f j))).slots.size : Int); rw [arrV_size]; omega)
    (by rw [nn dp h2, nn n h3]; show ¬ _ > ((arrV c1 n1 (fun j => .int (g j))).slots.size : Int); rw [arrV_size]; omega)
    (fun vm₁ _ i hi => by
      have e : (vp_cell c0 (n0, .inl f)).slots.getD (sp.toNatClampNeg + i) .null = .int (f (sp.toNatClampNeg + i)) := by
        show (arrV c0 n0 (fun j => .int (f j))).slots.getD _ _ = _
        rw [Array.getD_eq_getD_getElem?, arrV_read _ _ (by omega)]
        rfl
      refine ⟨?_, ?_⟩
      · rw [e]
        exact hfit i hi
      · rw [e]
        exact trivial)
    (g := F0 m pc ls (.int n :: .int dp :: .ref a :: .int sp :: .ref a0 :: rest)) rfl (by rw [hml]) (rest := rest) rfl (by rw [hb]; exact hdg) hframes (by show 2 * 0 + _ + _ ≤ _; omega)
  have e1 : copied (vp_cell c0 (n0, .inl f)) (vp_cell c1 (n1, .inl g)) sp dp n = vp_cell c1 (n1, .inl (va_cpy f g sp.toNatClampNeg dp.toNatClampNeg n.toNatClampNeg)) := va_copied (fun z => .int z) c0 c1 f g h4
  rw [e1] at X' step
  have hl : a < H.size := (Array.getElem?_eq_some_iff.mp hc1).1
  have hheap : ((T.setVm vm').setCell a (vp_cell c1 (n1, .inl (va_cpy f g sp.toNatClampNeg dp.toNatClampNeg n.toNatClampNeg)))).heap = H.setIfInBounds a (vp_cell c1 (n1, .inl (va_cpy f g sp.toNatClampNeg dp.toNatClampNeg n.toNatClampNeg))) := by rw [← hT]; rfl
  have oq : ∀ q : Nat, q ≠ a → (H.setIfInBounds a (vp_cell c1 (n1, .inl (va_cpy f g sp.toNatClampNeg dp.toNatClampNeg n.toNatClampNeg))))[q]? = H[q]? := fun q hq => by simp [Array.getElem?_setIfInBounds, Ne.symm hq]
  obtain ⟨t, a1, b1⟩ := kk _ _ (hP.set hD ha1 (show (H.setIfInBounds a _)[a]? = some _ by simp [Array.getElem?_setIfInBounds, hl]) oq) (by simp) ⟨by simp; exact hS.1, fun q g1 g2 => by
      rw [oq q (fun e => g2 (by rw [e]; exact hD.2 q1 _ ha1))]
      exact hS.2.1 q g1 g2, fun q hq => by
      rcases List.mem_append.mp hq with h | h
      · exact hS.2.2 q h
      · obtain ⟨z, -, hz⟩ := List.mem_map.mp h
        rw [← hz]
        exact hD.2 q1 _ ha1⟩ _ hheap X'
  exact ⟨t, step t a1, b1⟩
theorem mp_new (hexec : p.tables.exec = Jvm.exec) (hb : c.code = cc) {own C : String} {T : u_T} {N ci index : Nat} {Ts : List Cond} (hts : ∀ w ∈ Ts, w.before args s = true) (hin : ∀ w ∈ u_ws C T N, w ∈ Ts) (ty : Nat → FieldType) (hty : ∀ k, k < N → parseFieldDescriptor (T k).2.2.1 = some (ty k)) (hown : s.vm.findClass own = some m.cls) (hcl : (Cond.classLink own index C).before args s = true) (hinst : (Cond.instantiable C N).before args s = true) (hini : (Cond.initialized C).before args s = true)
    (hK : va_K D cl tys s) (hP : va_P D cl ws H) (hS : va_S A H0 H locs) (hc : cl[ci]? = some (C, T, N)) {fs : List Value} (hfs : ∀ j, j < N → defaultValue (ty j) = vp_V fs j) (hcells : cells + 1 ≤ R.cells) (hslots : slots + N ≤ R.slots) (hdg : decode cc pc = .ok (.new index, 3))
    (kk : ∀ (H1 : Heap), va_P D cl (ws ++ [(H.size, .inr (ci, fs))]) H1 → H1.size = H.size + 1 → va_S A H0 H1 locs →
      W p l e R s m args below meth c H1 locs (cells + 1) (slots + N) Q (F0 m (pc + 3) ls (.ref H.size :: rest))) : W p l e R s m args below meth c H locs cells slots Q (F0 m pc ls rest) := by
  have hKn := hK.1 ci _ hc
  refine W.newcK hexec hb hown hcl hinst hini rfl hdg hcells hslots hKn.2.1 rfl fun H1 kC hkC e1 z1 o1 => ?_
  have hk : ∀ (k : Nat) (x : Nat × va_E), ws[k]? = some x → H1[x.1]? = H[x.1]? := fun k x hx => o1 x.1 ((hP k x hx).lt)
  refine kk H1 ((hP.kept hk).app (fun k x hx => ?_)) z1 ⟨Nat.le_trans hS.1 (by omega), fun x h1 h2 => (o1 x (Nat.lt_of_lt_of_le h1 hS.1)).trans (hS.2.1 x h1 h2), hS.2.2⟩
  have hz : k < 1 := (List.getElem?_eq_some_iff.mp hx).1
  rw [show k = 0 by omega] at hx
  cases hx
  exact ⟨_, hc, (u_born ty hts hin hKn hkC e1 hty).to hfs⟩
theorem mp_newa (hexec : p.tables.exec = Jvm.exec) (hb : c.code = cc) {atype : ArrayType} (harr : (Cond.arrayClass (newarray.typeOf atype)).before args s = true) {ty : FieldType} (hty : newarray.typeOf atype = ty) (hP : va_P D cl ws H) (hS : va_S A H0 H locs) {cA : ClassId} (hcA : s.vm.findClass ("[" ++ ty.toString) = some cA)
    {n : Int32} {N' : Nat} {a0 : vp_A} (ha : ∀ cA : ClassId, vp_cell cA a0 = arrV cA N' (fun _ => defaultValue ty)) (hn : ¬ n < 0) (hN : n.toNatClampNeg = N') (hbytes : N' * componentBytes ty ≤ 536870912) (hcells : cells + 1 ≤ R.cells) (hslots : slots + N' ≤ R.slots) (hdg : decode cc pc = .ok (.newarray atype, 2))
    (kk : ∀ (H1 : Heap), va_P D cl (ws ++ [(H.size, .inl (cA, a0))]) H1 → H1.size = H.size + 1 → va_S A H0 H1 locs →
      W p l e R s m args below meth c H1 locs (cells + 1) (slots + N') Q (F0 m (pc + 2) ls (.ref H.size :: rest))) : W p l e R s m args below meth c H locs cells slots Q (F0 m pc ls (.int n :: rest)) := by
  subst hty
  refine va_newaK hexec hb harr rfl hdg rfl hn hN hbytes hcells hslots rfl fun H1 cA' e1 z1 o1 hAr hNm => ?_
  have hcc : cA' = cA := Option.some.inj (hNm.symm.trans hcA)
  subst hcc
  have hk : ∀ (k : Nat) (x : Nat × va_E), ws[k]? = some x → H1[x.1]? = H[x.1]? := fun k x hx => o1 x.1 ((hP k x hx).lt)
  refine kk H1 ((hP.kept hk).app (fun k x hx => ?_)) z1 ⟨Nat.le_trans hS.1 (by omega), fun x h1 h2 => (o1 x (Nat.lt_of_lt_of_le h1 hS.1)).trans (hS.2.1 x h1 h2), hS.2.2⟩
  have hz : k < 1 := (List.getElem?_eq_some_iff.mp hx).1
  rw [show k = 0 by omega] at hx
  cases hx
  show H1[H.size]? = some (vp_cell _ _)
  rw [ha]
  exact e1
theorem mp_newq (hexec : p.tables.exec = Jvm.exec) (hb : c.code = cc) {own C : String} {index : Nat} (hown : s.vm.findClass own = some m.cls) (hclink : (Cond.classLink own index C).before args s = true) (hover : (Cond.arrayOver (.object C)).before args s = true) (hP : va_P D cl ws H) (hS : va_S A H0 H locs) {cA : ClassId} (hcA : s.vm.findClass ("[" ++ (FieldType.object C).toString) = some cA)
    {n : Int32} {N' : Nat} (hn : ¬ n < 0) (hN : n.toNatClampNeg = N') (hbytes : N' * 4 ≤ 536870912) (hcells : cells + 1 ≤ R.cells) (hslots : slots + N' ≤ R.slots) (hdg : decode cc pc = .ok (.anewarray index, 3))
    (kk : ∀ (H1 : Heap), va_P D cl (ws ++ [(H.size, .inl (cA, N', .inr (.inr (.inr (.inr (fun _ => none))))))]) H1 → H1.size = H.size + 1 → va_S A H0 H1 locs →
      W p l e R s m args below meth c H1 locs (cells + 1) (slots + N') Q (F0 m (pc + 3) ls (.ref H.size :: rest))) : W p l e R s m args below meth c H locs cells slots Q (F0 m pc ls (.int n :: rest)) := by
  subst hN
  refine W.anew hexec hb hown hclink hover rfl hdg rfl hn hbytes hcells hslots fun cA' kA comp f1 f2 f3 f4 => ?_
  have hcc : cA' = cA := Option.some.inj (f1.symm.trans hcA)
  subst hcc
  generalize hH1 : H.push ({ cls := cA', slots := Array.replicate n.toNatClampNeg .null, vm := .none } : Cell) = H1
  have z1 : H1.size = H.size + 1 := by rw [← hH1, Array.size_push]
  have e1 : H1[H.size]? = some (arrV cA' n.toNatClampNeg (fun _ => .null)) := by rw [← hH1, Array.getElem?_push_size, ← arrV_new]
  have o1 : ∀ q : Nat, q < H.size → H1[q]? = H[q]? := fun q hq => by rw [← hH1, Array.getElem?_push, if_neg (Nat.ne_of_lt hq)]
  have hk : ∀ (k : Nat) (x : Nat × va_E), ws[k]? = some x → H1[x.1]? = H[x.1]? := fun k x hx => o1 x.1 ((hP k x hx).lt)
  refine kk H1 ((hP.kept hk).app (fun k x hx => ?_)) z1 ⟨Nat.le_trans hS.1 (by omega), fun x h1 h2 => (o1 x (Nat.lt_of_lt_of_le h1 hS.1)).trans (hS.2.1 x h1 h2), hS.2.2⟩
  have hz : k < 1 := (List.getElem?_eq_some_iff.mp hx).1
  rw [show k = 0 by omega] at hx
  cases hx
  exact e1
end MPW
end
section
/-! ===== BEGIN words of one list among another's, by their places ===== -/
theorem goodIn_r {big : List Cond} (ws : List Cond) (ps : List Nat) (hp : ws = ps.filterMap (fun i => big[i]?)) (h : ws.all goodWord = true) : GoodIn big ws := by
  intro w hw
  have h1 := List.all_eq_true.mp h w hw
  rw [hp] at hw
  obtain ⟨i, -, hi⟩ := List.mem_filterMap.mp hw
  have hm : w ∈ big := by first | exact List.mem_of_getElem? hi | exact List.getElem?_mem hi
  exact ⟨hm, good_of_word h1⟩
theorem goodIn_app {big a b : List Cond} (ha : GoodIn big a) (hb : GoodIn big b) : GoodIn big (a ++ b) := fun w h => (List.mem_append.mp h).elim (ha w) (hb w)
theorem goodIn_ca {big a b : List Cond} {c : Cond} (ha : GoodIn big (c :: a)) (hb : GoodIn big b) : GoodIn big (c :: (a ++ b)) := fun w h => (List.mem_cons.mp h).elim (fun e => ha w (List.mem_cons.mpr (Or.inl e))) (fun h => (List.mem_append.mp h).elim (fun h => ha w (List.mem_cons.mpr (Or.inr h))) (hb w))
theorem goodIn_sub {big ws : List Cond} (hm : ∀ w ∈ ws, w ∈ big) (h : ws.all goodWord = true) : GoodIn big ws := fun w hw => ⟨hm w hw, good_of_word (List.all_eq_true.mp h w hw)⟩
/-! ===== END ===== -/

/-! ===== BEGIN exceptions that leave a method, and their catching by the caller (launches without stack traces) ===== -/
section VXA
/-! The laws vx_back, vx_callV, vx_callS, vx_callSW, vx_throw0, vx_throwS follow proofs of the library, with one case more: JvmDerived/Free/Laws.lean (Back.of_free), Shelf42/LK1.lean (callV, callS), Shelf/KitTraced.lean (throwNew0V, throwNewS). -/
/-- where a method has thrown q: the class by its name, the cell, what was written, the world -/
def vx_T (XC : String → State → State → Prop) (st : State) (q : Addr) (t : State) (mc ms : Nat) (free : Addr → Prop) : Prop :=
  ∃ (E : String) (ce : Cell) (L : List Loc), XC E st t ∧ t.heap[q]? = some ce ∧ ce.vm = .none ∧ st.vm.findClass E = some ce.cls ∧ st.WarmedH t.vm ∧ st.sameButNew ({ t with vm := st.vm } : State) L mc ms ∧ ∀ z ∈ L, free z.base
def vx_Q (Qc : Array Value → State → Outcome → State → Prop) (XC : String → State → State → Prop) (mc ms : Nat) (free : Addr → Prop) : Array Value → State → Outcome → State → Prop := fun a st o t =>
  (Qc a st o t ∧ ∃ L, FrameEnd st o t L mc ms ∧ ∀ q ∈ L, free q.base) ∨ ∃ q, o = .threw q ∧ vx_T XC st q t mc ms free
/-- a callee that returns or throws -/
def vx_Met (l : Launch) (y : MethodName) (ws : List Cond) (rm : Room) (Pc : Array Value → State → Prop) (Qc : Array Value → State → Outcome → State → Prop) (XC : String → State → State → Prop) (mc ms : Nat) (free : Addr → Prop) : Prop :=
  MetFree l y (headSpec ws rm) Pc (fun _ _ _ _ _ => True) (vx_Q Qc XC mc ms free)
def vx_Post (XC : String → State → State → Prop) (mc ms : Nat) (free : Addr → Prop) : Pt → Array Value → Addr → Pt → Prop := fun A a q B =>
  ∃ (g : JFrame) (mk : MethodId) (t : State) (L : List Loc) (E : String) (ce : Cell), B.U.heap = t.heap ∧ B.U.vm = t.vm ∧ XC E (A.U.calling g mk a) t ∧ t.heap[q]? = some ce ∧ ce.vm = .none ∧ A.U.vm.findClass E = some ce.cls ∧ B.locs = A.locs ++ L ∧ (∀ z ∈ L, free z.base) ∧ B.cells = A.cells + mc ∧ B.slots = A.slots + ms
def vx_Back (l : Launch) (R : Room) (p : Program) (e : Env) (below : List Frame) (s : State) (sargs : Array Value) (y : MethodName) (len W9 : Nat)
    (Pre : Pt → Array Value → Prop) (Post : Pt → Array Value → Option Value → Pt → Prop) (PostX : Pt → Array Value → Addr → Pt → Prop) : Prop :=
  ∀ (m : MethodId) (meth : Method) (c : Code) (A : Pt) (g : JFrame) (ig : Instr) (mk : MethodId) (a : Array Value),
    Stand p l e R s m sargs below meth c A.U A.locs A.cells A.slots → g.method = m → g.locals.size = c.maxLocals → decode c.code g.pc = .ok (ig, len) →
    2 * g.monitorRoom + (g.stack.map fun v => v.category).sum ≤ W9 → A.U.methodNamed? y = some mk → Pre A a →
    (∃ (v : Option Value) (B : Pt), Stand p l e R s m sargs below meth c B.U B.locs B.cells B.slots ∧ Post A a v B ∧
      Steps p.tables e below (doInvoke e (A.U.setTop g) [] mk a).1 (B.U.setTop { g with pc := g.pc + len, stack := v.toList ++ g.stack })) ∨
    (∃ (q : Addr) (B : Pt), Stand p l e R s m sargs below meth c B.U B.locs B.cells B.slots ∧ PostX A a q B ∧
      Steps p.tables e below (doInvoke e (A.U.setTop g) [] mk a).1 ((B.U.setTop g).pushFrame (.throwing q)))
section Payer
variable {l : Launch} {R : Room} {p : Program} {e : Env} {below : List Frame} {s : State} {sargs : Array Value} {y : MethodName} {len W9 : Nat}
theorem vx_back {ws : List Cond} {rm : Room} {Pc : Array Value → State → Prop} {Qc : Array Value → State → Outcome → State → Prop} {XC : String → State → State → Prop} {mc ms : Nat} {free : Addr → Prop} {bytes : ByteArray} {maxL : Nat} {ret : Option FieldType}
    (hM : vx_Met l y ws rm Pc Qc XC mc ms free) (hblind : FrameBlind Pc) (hrc : rm.cells = mc) (hrs : rm.slots = ms)
    (hframes : rm.frames + 1 ≤ R.frames) (hlocals : W9 + (maxL + 11) + rm.locals ≤ R.locals)
    (hws : ∀ w ∈ ws, ∀ a' U, s.WarmedH U.vm → w.before a' U = true) (hcode : Cond.code y bytes maxL ret ∈ ws) (hinit : ∀ a' U, s.WarmedH U.vm → (Cond.initialized y.cls).before a' U = true) :
    vx_Back l R p e below s sargs y len W9 (PreOf R mc ms Pc) (PostOf Qc mc ms free) (vx_Post XC mc ms free) := by
  intro m meth c A g ig mk a X hg hsize hdg hW hn hp
  have h1 : (headSpec ws rm).pre.before a A.U = true := atoms_intro fun w hw => hws w hw _ _ X.warmed
  have h2 : (Cond.code y bytes maxL ret).before a A.U = true := hws _ hcode _ _ X.warmed
  have h3 : (Cond.initialized y.cls).before a A.U = true := hinit _ _ X.warmed
  have h4 : A.cells + (headSpec ws rm).room.cells ≤ R.cells := by rw [show (headSpec ws rm).room.cells = mc from hrc]; exact hp.1
  have h5 : A.slots + (headSpec ws rm).room.slots ≤ R.slots := by rw [show (headSpec ws rm).room.slots = ms from hrs]; exact hp.2.1
  have hPc : Pc a (A.U.calling g mk a) := hblind _ _ _ _ hp.2.2
  obtain ⟨U, Ls, c0, s0⟩ := A
  dsimp only [Pt.U, Pt.locs, Pt.cells, Pt.slots] at h1 h2 h3 h4 h5 X hn hPc ⊢
  obtain ⟨methY, cY, hmY, hcY, -, hlY, -, -, -, -⟩ := Cond.code_spec hn h2
  obtain ⟨kY, hkY, -⟩ := className_of_methodNamed hn
  have hinitY : kY.init = .initialized := Cond.initialized_spec (findClass_of_methodNamed hn) hkY h3
  have h : At U g.method c below := by rw [hg]; exact X.here
  have hlocals9 : W9 + (maxL + 11) + (headSpec ws rm).room.locals ≤ R.locals := hlocals
  have happ : (headSpec ws rm).appliesLoose y e.platform (U.calling g mk a) = true :=
    Spec.appliesLoose_calling (g := g) h hdg hn hkY hinitY
      (X.room_calling (g := g) (R' := (headSpec ws rm).room) hsize hmY hcY hframes (by rw [hlY]; omega) h4 h5) h1
  obtain ⟨mid, hmid⟩ := h.above
  have hfr : (U.setTop g).frames = (.java g :: mid) ++ below := by rw [State.frames_setTop' g h.top, hmid]; rfl
  obtain ⟨o, s₂, hsteps, -, hend, hq⟩ := Steps.callFree hM p X.admits X.cas X.clock (acts := []) hfr happ hPc trivial
  have hq' : vx_Q Qc XC mc ms free a (U.calling g mk a) o s₂ := hq
  rw [State.frames_setTop' g h.top] at hend
  obtain ⟨g₀, hg0⟩ := Option.isSome_iff_exists.mp h.top
  obtain ⟨r, hr⟩ := State.topJava?_eq_some.mp hg0
  have hr' : (({ U with heap := s₂.heap, slotsUsed := s₂.slotsUsed } : State).setVm s₂.vm).frames = .java g₀ :: r := hr
  rcases hq' with ⟨hqc, L, hfe, hL⟩ | ⟨q, rfl, E, ce, L, hx, hce, hcv, hcl, hW₂, hsm, hL⟩
  · obtain ⟨⟨v, rfl⟩, hW₂, e2, q2, q3, q4, q5, q6⟩ := id hfe
    have e3 : s₂ = ({ (U.calling g mk a).setFrames s₂.frames with heap := s₂.heap, slotsUsed := s₂.slotsUsed } : State).setVm s₂.vm := by
      have : s₂ = ({ s₂ with vm := (U.calling g mk a).vm } : State).setVm s₂.vm := rfl
      rw [e2] at this
      exact this
    obtain ⟨c₂, i₂, len₂, hc₂, hd₂, hf₂⟩ := hend
    have hW' : U.WarmedH s₂.vm := hW₂
    have hcc : c₂ = c := by
      have h1 : s₂.code? g.method = U.code? g.method := by
        rw [State.code?_eq, State.code?_eq, hW'.alike.method?]
      exact Option.some.inj (hc₂.symm.trans (h1.trans h.code))
    subst hcc
    have hlen : len₂ = len := by rw [hdg] at hd₂; cases hd₂; rfl
    subst hlen
    have hs₂ : s₂ = (({ U with heap := s₂.heap, slotsUsed := s₂.slotsUsed } : State).setVm s₂.vm).setTop { g with pc := g.pc + len₂, stack := v.toList ++ g.stack } := by
      refine e3.trans ?_
      rw [hf₂, State.calling_eq h.top, State.setFrames_setFrames, State.setTop_of_frames _ hr', hr]
      rfl
    have hsame : U.sameButNew ({ U with heap := s₂.heap, slotsUsed := s₂.slotsUsed } : State) L mc ms := by
      refine ⟨?_, q2, q3, q4, q5, q6⟩
      obtain ⟨t, ht, -⟩ := State.frames_cons hr
      show ({ U with heap := s₂.heap, slotsUsed := s₂.slotsUsed } : State) = { U.setFrames U.frames with heap := s₂.heap, slotsUsed := s₂.slotsUsed }
      rw [State.setFrames_self ht]
    subst hg
    refine Or.inl ⟨v, ⟨(({ U with heap := s₂.heap, slotsUsed := s₂.slotsUsed } : State).setVm s₂.vm), Ls ++ L, c0 + mc, s0 + ms⟩,
      ⟨X.admits, X.cas, X.clock, X.frames, X.room, X.hears, X.method, X.code, (X.here.setHeapUsed s₂.heap s₂.slotsUsed).setVm hW'.alike, X.tail, State.WarmedH.trans X.warmed hW', X.limits, X.bytes, X.same.trans (hsame.setVm s.vm)⟩,
      ⟨g, mk, s₂, L, rfl, rfl, hqc, rfl, hL, rfl, rfl⟩, ?_⟩
    show Steps p.tables e below _ ((({ U with heap := s₂.heap, slotsUsed := s₂.slotsUsed } : State).setVm s₂.vm).setTop { g with pc := g.pc + len₂, stack := v.toList ++ g.stack })
    rw [← hs₂]
    exact hsteps
  · obtain ⟨e2, q2, q3, q4, q5, q6⟩ := id hsm
    have e3 : s₂ = ({ (U.calling g mk a).setFrames s₂.frames with heap := s₂.heap, slotsUsed := s₂.slotsUsed } : State).setVm s₂.vm := by
      have : s₂ = ({ s₂ with vm := (U.calling g mk a).vm } : State).setVm s₂.vm := rfl
      rw [e2] at this
      exact this
    have hf₂ : s₂.frames = .throwing q :: .java g :: U.frames.tail := hend
    have hW' : U.WarmedH s₂.vm := hW₂
    have hs₂ : s₂ = ((({ U with heap := s₂.heap, slotsUsed := s₂.slotsUsed } : State).setVm s₂.vm).setTop g).pushFrame (.throwing q) := by
      refine e3.trans ?_
      rw [hf₂, State.calling_eq h.top, State.setFrames_setFrames, State.pushFrame, State.frames_setTop _ hr', State.setTop_of_frames _ hr', State.setFrames_setFrames, hr]
      rfl
    have hsame : U.sameButNew ({ U with heap := s₂.heap, slotsUsed := s₂.slotsUsed } : State) L mc ms := by
      refine ⟨?_, q2, q3, q4, q5, q6⟩
      obtain ⟨t, ht, -⟩ := State.frames_cons hr
      show ({ U with heap := s₂.heap, slotsUsed := s₂.slotsUsed } : State) = { U.setFrames U.frames with heap := s₂.heap, slotsUsed := s₂.slotsUsed }
      rw [State.setFrames_self ht]
    subst hg
    refine Or.inr ⟨q, ⟨(({ U with heap := s₂.heap, slotsUsed := s₂.slotsUsed } : State).setVm s₂.vm), Ls ++ L, c0 + mc, s0 + ms⟩,
      ⟨X.admits, X.cas, X.clock, X.frames, X.room, X.hears, X.method, X.code, (X.here.setHeapUsed s₂.heap s₂.slotsUsed).setVm hW'.alike, X.tail, State.WarmedH.trans X.warmed hW', X.limits, X.bytes, X.same.trans (hsame.setVm s.vm)⟩,
      ⟨g, mk, s₂, L, E, ce, rfl, rfl, hx, hce, hcv, hcl, rfl, hL, rfl, rfl⟩, ?_⟩
    show Steps p.tables e below _ (((({ U with heap := s₂.heap, slotsUsed := s₂.slotsUsed } : State).setVm s₂.vm).setTop g).pushFrame (.throwing q))
    rw [← hs₂]
    exact hsteps
end Payer
section Calls
variable {p : Program} {l : Launch} {e : Env} {R : Room} {s : State} {m : MethodId} {args : Array Value} {below : List Frame} {meth : Method} {c : Code} {T : State} {locs : List Loc} {cells slots : Nat}
theorem vx_callV (X : Stand p l e R s m args below meth c T locs cells slots) (hexec : p.tables.exec = Jvm.exec) {own C : String} {index : Nat} {y : MethodName} {bytes : ByteArray} {maxL : Nat} {ret : Option FieldType}
    (hown : s.vm.findClass own = some m.cls) (hlink : (Cond.methodLink own index y).before args s = true) (hinst : (Cond.instanceMethod y).before args s = true) (hsel : (Cond.selects C y y).before args s = true)
    (hcode : (Cond.code y bytes maxL ret).before args s = true) (hy : y.cls ≠ "java/lang/invoke/MethodHandle" ∧ y.cls ≠ "java/lang/invoke/VarHandle")
    {W9 : Nat} {Pre : Pt → Array Value → Prop} {Post : Pt → Array Value → Option Value → Pt → Prop} {PostX : Pt → Array Value → Addr → Pt → Prop} (hK : vx_Back l R p e below s args y 3 W9 Pre Post PostX)
    {b : Addr} {cellB : Cell} (hcell : T.heap[b]? = some cellB) (hobj : cellB.vm.isStatics = false) (hcls : s.vm.findClass C = some cellB.cls)
    {g : JFrame} (hg : g.method = m) (hsize : g.locals.size = c.maxLocals) {argsL rest : List Value} (hlen : ∀ sig, parseMethodDescriptor y.desc = some sig → argsL.length = sig.parameters.length)
    (hstack : g.stack = argsL.reverse ++ .ref b :: rest) (hW : 2 * g.monitorRoom + (rest.map fun v => v.category).sum ≤ W9) (hdg : decode c.code g.pc = .ok (.invokevirtual index, 3))
    (hpre : ∀ vm₁, s.WarmedH vm₁ → Pre ⟨T.setVm vm₁, locs, cells, slots⟩ (Value.ref b :: argsL).toArray) :
    (∃ (v : Option Value) (vm₁ : Vm) (B : Pt), s.WarmedH vm₁ ∧ Stand p l e R s m args below meth c B.U B.locs B.cells B.slots ∧ Post ⟨T.setVm vm₁, locs, cells, slots⟩ (Value.ref b :: argsL).toArray v B ∧
      ∀ target, Steps p.tables e below (B.U.setTop { g with pc := g.pc + 3, stack := v.toList ++ rest }) target → Steps p.tables e below (T.setTop g) target) ∨
    (∃ (q : Addr) (vm₁ : Vm) (B : Pt), s.WarmedH vm₁ ∧ Stand p l e R s m args below meth c B.U B.locs B.cells B.slots ∧ PostX ⟨T.setVm vm₁, locs, cells, slots⟩ (Value.ref b :: argsL).toArray q B ∧
      Steps p.tables e below (T.setTop g) ((B.U.setTop { g with stack := rest }).pushFrame (.throwing q))) := by
  obtain ⟨mk, methM, hnamed, hmethM, hstM, habM⟩ := Cond.instanceMethod_spec hinst
  obtain ⟨methM', cM, hmethM', -, -, -, -, -, -, hsigM⟩ := Cond.code_spec hnamed hcode
  cases hmethM.symm.trans hmethM'
  obtain ⟨c2, r2, m2, q1, q2, q3, q4, kP, hkP, hkPi⟩ := Cond.selects_spec hsel
  cases hcls.symm.trans q1
  cases (State.methodFound?_of_named hnamed hy).symm.trans q2
  cases hnamed.symm.trans q3
  have hselP : selectMethod e.platform s.vm cellB.cls mk = .method mk := by rw [Launch.admits_selectMethod X.admits]; exact q4
  obtain ⟨vm₁, X₁, hstep₁⟩ := X.invokevirtual hexec hown hlink hnamed hmethM hstM hkP hkPi hy (a := b) (cell := cellB) hcell
    (fun z h => by rw [h] at hobj; cases hobj) hselP hmethM habM hkP hkPi (g := g) hg (argsL := argsL) (rest := rest) (hlen _ hsigM) hstack hdg
  rcases hK m meth c ⟨T.setVm vm₁, locs, cells, slots⟩ { g with stack := rest } (.invokevirtual index) mk (Value.ref b :: argsL).toArray X₁ hg hsize hdg hW (X₁.named hnamed) (hpre vm₁ X₁.warmed) with ⟨v, B, X', hpost, hsteps⟩ | ⟨q, B, X', hpost, hsteps⟩
  · exact Or.inl ⟨v, vm₁, B, X₁.warmed, X', hpost, fun target h => hstep₁ _ fun acts => by rw [doInvoke_state]; exact hsteps.trans h⟩
  · exact Or.inr ⟨q, vm₁, B, X₁.warmed, X', hpost, hstep₁ _ fun acts => by rw [doInvoke_state]; exact hsteps⟩
theorem vx_callS (X : Stand p l e R s m args below meth c T locs cells slots) (hexec : p.tables.exec = Jvm.exec) {own : String} {index : Nat} {y : MethodName} {bytes : ByteArray} {maxL : Nat} {ret : Option FieldType}
    (hown : s.vm.findClass own = some m.cls) (hlink : (Cond.methodLink own index y).before args s = true) (hstat : (Cond.static y).before args s = true) (hinit : (Cond.initialized y.cls).before args s = true)
    (hcode : (Cond.code y bytes maxL ret).before args s = true) (hy : y.cls ≠ "java/lang/invoke/MethodHandle" ∧ y.cls ≠ "java/lang/invoke/VarHandle")
    {W9 : Nat} {Pre : Pt → Array Value → Prop} {Post : Pt → Array Value → Option Value → Pt → Prop} {PostX : Pt → Array Value → Addr → Pt → Prop} (hK : vx_Back l R p e below s args y 3 W9 Pre Post PostX)
    {g : JFrame} (hg : g.method = m) (hsize : g.locals.size = c.maxLocals) {argsL rest : List Value} (hlen : ∀ sig, parseMethodDescriptor y.desc = some sig → argsL.length = sig.parameters.length)
    (hstack : g.stack = argsL.reverse ++ rest) (hW : 2 * g.monitorRoom + (rest.map fun v => v.category).sum ≤ W9) (hdg : decode c.code g.pc = .ok (.invokestatic index, 3))
    (hpre : ∀ vm₁, s.WarmedH vm₁ → Pre ⟨T.setVm vm₁, locs, cells, slots⟩ argsL.toArray) :
    (∃ (v : Option Value) (vm₁ : Vm) (B : Pt), s.WarmedH vm₁ ∧ Stand p l e R s m args below meth c B.U B.locs B.cells B.slots ∧ Post ⟨T.setVm vm₁, locs, cells, slots⟩ argsL.toArray v B ∧
      ∀ target, Steps p.tables e below (B.U.setTop { g with pc := g.pc + 3, stack := v.toList ++ rest }) target → Steps p.tables e below (T.setTop g) target) ∨
    (∃ (q : Addr) (vm₁ : Vm) (B : Pt), s.WarmedH vm₁ ∧ Stand p l e R s m args below meth c B.U B.locs B.cells B.slots ∧ PostX ⟨T.setVm vm₁, locs, cells, slots⟩ argsL.toArray q B ∧
      Steps p.tables e below (T.setTop g) ((B.U.setTop { g with stack := rest }).pushFrame (.throwing q))) := by
  obtain ⟨mk, hnamed⟩ := Cond.code_named hcode
  obtain ⟨methM, cM, hmethM, -, -, -, -, -, -, hsigM⟩ := Cond.code_spec hnamed hcode
  have hstatic : methM.isStatic = true := Cond.static_spec hnamed hmethM hstat
  obtain ⟨kP, hkP, -⟩ := className_of_methodNamed hnamed
  have hinitP : kP.init = .initialized := Cond.initialized_spec (findClass_of_methodNamed hnamed) hkP hinit
  obtain ⟨vm₁, X₁, hstep₁⟩ := X.invokestatic hexec hown hlink hnamed hmethM hstatic hkP hinitP hy (g := g) hg (argsL := argsL) (rest := rest) (hlen _ hsigM) hstack hdg
  rcases hK m meth c ⟨T.setVm vm₁, locs, cells, slots⟩ { g with stack := rest } (.invokestatic index) mk argsL.toArray X₁ hg hsize hdg hW (X₁.named hnamed) (hpre vm₁ X₁.warmed) with ⟨v, B, X', hpost, hsteps⟩ | ⟨q, B, X', hpost, hsteps⟩
  · exact Or.inl ⟨v, vm₁, B, X₁.warmed, X', hpost, fun target h => hstep₁ _ fun acts => by rw [doInvoke_state]; exact hsteps.trans h⟩
  · exact Or.inr ⟨q, vm₁, B, X₁.warmed, X', hpost, hstep₁ _ fun acts => by rw [doInvoke_state]; exact hsteps⟩
end Calls
theorem vx_cls {s : State} {T : State} {vm₁ : Vm} {E : String} {k : ClassId} (hW : s.WarmedH vm₁) (h : (T.setVm vm₁).vm.findClass E = some k) : s.vm.findClass E = some k := by
  have h1 : vm₁.findClass E = some k := h
  rw [hW.alike.findClass] at h1
  exact h1
/-- the method's frame g, with q thrown over it -/
def vx_W (p : Program) (l : Launch) (e : Env) (R : Room) (s : State) (m : MethodId) (args : Array Value) (below : List Frame) (meth : Method) (c : Code) (H : Heap) (locs : List Loc) (cells slots : Nat) (Q : State → Prop) (g : JFrame) (q : Addr) : Prop :=
  ∀ T : State, T.heap = H → Stand p l e R s m args below meth c T locs cells slots → ∃ t, Steps p.tables e below ((T.setTop g).pushFrame (.throwing q)) t ∧ Q t
def vx_Run (p : Program) (l : Launch) (e : Env) (R : Room) (s : State) (m : MethodId) (args : Array Value) (below : List Frame) (meth : Method) (c : Code) (H : Heap) (locs : List Loc) (cells slots mc ms : Nat) (g : JFrame) (rest : List Value) (Qa : State → Outcome → State → Prop) (XC : String → State → State → Prop) (free : Addr → Prop) : Prop :=
  ∀ T : State, T.heap = H → Stand p l e R s m args below meth c T locs cells slots →
    (∃ (v : Option Value) (st₀ t T' : State) (L : List Loc), st₀.heap = H ∧ Stand p l e R s m args below meth c T' (locs ++ L) (cells + mc) (slots + ms) ∧ (∀ q ∈ L, free q.base) ∧ T'.heap = t.heap ∧ T'.vm = t.vm ∧ Qa st₀ (.returned v) t ∧
      Goes p e below T g T' { g with pc := g.pc + 3, stack := v.toList ++ rest }) ∨
    (∃ (q : Addr) (st₀ t T' : State) (L : List Loc) (E : String) (ce : Cell), st₀.heap = H ∧ Stand p l e R s m args below meth c T' (locs ++ L) (cells + mc) (slots + ms) ∧ (∀ z ∈ L, free z.base) ∧ T'.heap = t.heap ∧ T'.vm = t.vm ∧ XC E st₀ t ∧ t.heap[q]? = some ce ∧ ce.vm = .none ∧ s.vm.findClass E = some ce.cls ∧
      Steps p.tables e below (T.setTop g) ((T'.setTop { g with stack := rest }).pushFrame (.throwing q)))
def vx_X {S : Type} (px : S → Prop) (B : String → S → State → Prop) (A : Nat → Prop) : String → State → State → Prop := fun E st t => ∃ u : S, px u ∧ B E u t ∧ va_F A st t
section Runs
variable {p : Program} {l : Launch} {e : Env} {R : Room} {s : State} {m : MethodId} {args : Array Value} {below : List Frame} {meth : Method} {c : Code} {H : Heap} {locs : List Loc} {cells slots : Nat}
variable {y : MethodName} {bytes cc : ByteArray} {maxL nL mc ms n index : Nat} {ret : Option FieldType} {ws : List Cond} {rm : Room} {Pc : Array Value → State → Prop} {Qc : Array Value → State → Outcome → State → Prop} {XC : String → State → State → Prop} {free : Addr → Prop} {Ts : List Cond} {own C : String} {b : Addr} {As rest : List Value} {g : JFrame}
theorem vx_callBack (cb : CallB R s args own index y bytes maxL ret ws rm mc ms n) (hM : vx_Met l y ws rm Pc Qc XC mc ms free) (hbl : FrameBlind Pc) : vx_Back l R p e below s args y 3 8 (PreOf R mc ms Pc) (PostOf Qc mc ms free) (vx_Post XC mc ms free) := by
  obtain ⟨hrc, hrs, hfr, hlo, hws, hcw, -, hini, -⟩ := cb
  exact vx_back (bytes := bytes) (maxL := maxL) (ret := ret) hM hbl hrc hrs hfr hlo hws hcw (fun a' U hW => word_at hW (Or.inl (by first | rfl | simp [Cond.onTables, Cond.keeps, Cond.steady])) hini)
theorem vx_runV (S : CallFix p m c cc nL s args Ts own) (hM : vx_Met l y ws rm Pc Qc XC mc ms free) (cw : CallW R s args own C index y bytes maxL ret ws rm mc ms n) (hp : PreV s H C b Pc As)
    (hg : g.method = m) (hn : As.length = n) (hsize : g.locals.size = nL) (hstack : g.stack = As.reverse ++ .ref b :: rest) (hW : 2 * g.monitorRoom + (rest.map fun v => v.category).sum ≤ 8) (hdg : decode cc g.pc = .ok (.invokevirtual index, 3)) (hf : cells + mc ≤ R.cells ∧ slots + ms ≤ R.slots) :
    vx_Run p l e R s m args below meth c H locs cells slots mc ms g rest (Qc (Value.ref b :: As).toArray) XC free := by
  have hK : vx_Back l R p e below s args y 3 8 (PreOf R mc ms Pc) (PostOf Qc mc ms free) (vx_Post XC mc ms free) := vx_callBack cw.1 hM hp.1
  obtain ⟨⟨-, -, -, -, -, -, hcode, -, hy, hlen, hl⟩, hin, hse⟩ := cw
  obtain ⟨hx, hb, hml, ho, -⟩ := S
  obtain ⟨-, ⟨cellB, hcB, hoB, hclB⟩, hPc⟩ := hp
  intro T hT X
  rcases vx_callV X hx (C := C) (bytes := bytes) (maxL := maxL) (ret := ret) ho hl hin hse hcode hy hK (by rw [hT]; exact hcB) hoB hclB hg (hsize.trans hml.symm) (argsL := As) (rest := rest) (fun sig h => hn.trans (hlen sig h)) hstack hW (by rw [hb]; exact hdg)
    (fun vm₁ hW₁ => ⟨hf.1, hf.2, hPc (T.setVm vm₁) hT hW₁⟩) with ⟨v, vm₁, ⟨U', l2, c2, s2⟩, hW₁, X', ⟨g', mk, t, L, e1, e2, hq, h1, hL, h2, h3⟩, st⟩ | ⟨q, vm₁, ⟨U', l2, c2, s2⟩, hW₁, X', ⟨g', mk, t, L, E, ce, e1, e2, hq, hce, hcv, hcl, h1, hL, h2, h3⟩, st⟩
  · dsimp only [Pt.U, Pt.locs, Pt.cells, Pt.slots] at X' e1 e2 h1 h2 h3 st
    subst h1; subst h2; subst h3
    exact Or.inl ⟨v, (T.setVm vm₁).calling g' mk (Value.ref b :: As).toArray, t, U', L, hT, X', hL, e1, e2, hq, st⟩
  · dsimp only [Pt.U, Pt.locs, Pt.cells, Pt.slots] at X' e1 e2 h1 h2 h3 st hcl
    subst h1; subst h2; subst h3
    exact Or.inr ⟨q, (T.setVm vm₁).calling g' mk (Value.ref b :: As).toArray, t, U', L, E, ce, hT, X', hL, e1, e2, hq, hce, hcv, vx_cls hW₁ hcl, st⟩
theorem vx_runS (S : CallFix p m c cc nL s args Ts own) (hM : vx_Met l y ws rm Pc Qc XC mc ms free) (cw : CallB R s args own index y bytes maxL ret ws rm mc ms n ∧ (Cond.static y).before args s = true) (hp : PreS s H Pc As)
    (hg : g.method = m) (hn : As.length = n) (hsize : g.locals.size = nL) (hstack : g.stack = As.reverse ++ rest) (hW : 2 * g.monitorRoom + (rest.map fun v => v.category).sum ≤ 8) (hdg : decode cc g.pc = .ok (.invokestatic index, 3)) (hf : cells + mc ≤ R.cells ∧ slots + ms ≤ R.slots) :
    vx_Run p l e R s m args below meth c H locs cells slots mc ms g rest (Qc As.toArray) XC free := by
  have hK : vx_Back l R p e below s args y 3 8 (PreOf R mc ms Pc) (PostOf Qc mc ms free) (vx_Post XC mc ms free) := vx_callBack cw.1 hM hp.1
  obtain ⟨⟨-, -, -, -, -, -, hcode, hini, hy, hlen, hl⟩, hstt⟩ := cw
  obtain ⟨hx, hb, hml, ho, -⟩ := S
  intro T hT X
  rcases vx_callS X hx (bytes := bytes) (maxL := maxL) (ret := ret) ho hl hstt hini hcode hy hK hg (hsize.trans hml.symm) (argsL := As) (rest := rest) (fun sig h => hn.trans (hlen sig h)) hstack hW (by rw [hb]; exact hdg)
    (fun vm₁ hW₁ => ⟨hf.1, hf.2, hp.2 (T.setVm vm₁) hT hW₁⟩) with ⟨v, vm₁, ⟨U', l2, c2, s2⟩, hW₁, X', ⟨g', mk, t, L, e1, e2, hq, h1, hL, h2, h3⟩, st⟩ | ⟨q, vm₁, ⟨U', l2, c2, s2⟩, hW₁, X', ⟨g', mk, t, L, E, ce, e1, e2, hq, hce, hcv, hcl, h1, hL, h2, h3⟩, st⟩
  · dsimp only [Pt.U, Pt.locs, Pt.cells, Pt.slots] at X' e1 e2 h1 h2 h3 st
    subst h1; subst h2; subst h3
    exact Or.inl ⟨v, (T.setVm vm₁).calling g' mk As.toArray, t, U', L, hT, X', hL, e1, e2, hq, st⟩
  · dsimp only [Pt.U, Pt.locs, Pt.cells, Pt.slots] at X' e1 e2 h1 h2 h3 st hcl
    subst h1; subst h2; subst h3
    exact Or.inr ⟨q, (T.setVm vm₁).calling g' mk As.toArray, t, U', L, E, ce, hT, X', hL, e1, e2, hq, hce, hcv, vx_cls hW₁ hcl, st⟩
end Runs
section Rows
variable {p : Program} {l : Launch} {e : Env} {R : Room} {s : State} {m : MethodId} {args : Array Value} {below : List Frame} {meth : Method} {c : Code} {H : Heap} {locs : List Loc} {cells slots : Nat} {Q : State → Prop}
variable {mc ms : Nat} {free : Addr → Prop} {A0 A1 : Nat → Prop} {H0 : Heap} {a : Array Value} {pc : Nat} {ls : Array Slot} {st0 rest : List Value}
theorem vx_keep {st₀ t T' : State} {L : List Loc} (h0 : st₀.heap = H) (e1 : T'.heap = t.heap) (hS : va_S A0 H0 H locs) (hA : ∀ q, q < H.size → A1 q → A0 q) (hf : ∀ q, free q → A0 q) (hL : ∀ q ∈ L, free q.base) (hF : va_F A1 st₀ t) :
    H.size ≤ T'.heap.size ∧ (∀ q : Nat, q < H.size → ¬ A1 q → T'.heap[q]? = H[q]?) ∧ va_S A0 H0 T'.heap (locs ++ L) := by
  obtain ⟨hz, hk⟩ := hF
  rw [h0] at hz hk
  exact ⟨by rw [e1]; exact hz, fun q h1 h2 => by rw [e1]; exact hk q h1 h2,
    ⟨Nat.le_trans hS.1 (by rw [e1]; exact hz), fun q h1 h2 => by rw [e1, hk q (Nat.lt_of_lt_of_le h1 hS.1) (fun z => h2 (hA q (Nat.lt_of_lt_of_le h1 hS.1) z))]; exact hS.2.1 q h1 h2, fun q hq => by
      rcases List.mem_append.mp hq with h | h
      · exact hS.2.2 q h
      · exact hf _ (hL q h)⟩⟩
theorem vx_calli {S SX : Type} {post : Int32 → S → Prop} {px : SX → Prop} {B : S → State → Prop} {BX : String → SX → State → Prop} {AX : Nat → Prop} (hr : vx_Run p l e R s m args below meth c H locs cells slots mc ms (F0 m pc ls st0) rest (va_Qi post B A1 a) (vx_X px BX AX) free) (hS : va_S A0 H0 H locs) (hA : ∀ q, q < H.size → A1 q → A0 q) (hf : ∀ q, free q → A0 q) (hAX : ∀ q, q < H.size → AX q → A0 q)
    (kx : ∀ (E : String) (ce : Cell) (q9 : Addr) (u : SX) (t : State) (H1 : Heap) (locs1 : List Loc), t.heap = H1 → s.vm.Alike t.vm → px u → BX E u t → H.size ≤ H1.size → (∀ q : Nat, q < H.size → ¬ AX q → H1[q]? = H[q]?) → va_S A0 H0 H1 locs1 → H1[q9]? = some ce → ce.vm = .none → s.vm.findClass E = some ce.cls → vx_W p l e R s m args below meth c H1 locs1 (cells + mc) (slots + ms) Q (F0 m pc ls rest) q9)
    (kk : ∀ (r : Int32) (u : S) (t : State) (H1 : Heap) (locs1 : List Loc), t.heap = H1 → s.vm.Alike t.vm → post r u → B u t → H.size ≤ H1.size → (∀ q : Nat, q < H.size → ¬ A1 q → H1[q]? = H[q]?) → va_S A0 H0 H1 locs1 → W p l e R s m args below meth c H1 locs1 (cells + mc) (slots + ms) Q (F0 m (pc + 3) ls (.int r :: rest))) : W p l e R s m args below meth c H locs cells slots Q (F0 m pc ls st0) := by
  intro T hT X
  rcases hr T hT X with ⟨v, st₀, t, T', L, h0, X', hL, e1, e2, ⟨⟨r, u, hv, hp, hb⟩, hF⟩, st⟩ | ⟨q, st₀, t, T', L, E, ce, h0, X', hL, e1, e2, ⟨u, hp, hb, hF⟩, hce, hcv, hcl, st⟩
  · cases hv
    obtain ⟨k1, k2, k3⟩ := vx_keep h0 e1 hS hA hf hL hF
    obtain ⟨t2, a1, b1⟩ := kk r u t T'.heap (locs ++ L) e1.symm (by rw [← e2]; exact X'.warmed.alike) hp hb k1 k2 k3 T' rfl X'
    exact ⟨t2, st t2 a1, b1⟩
  · obtain ⟨k1, k2, k3⟩ := vx_keep h0 e1 hS hAX hf hL hF
    obtain ⟨t2, a1, b1⟩ := kx E ce q u t T'.heap (locs ++ L) e1.symm (by rw [← e2]; exact X'.warmed.alike) hp hb k1 k2 k3 (by rw [e1]; exact hce) hcv hcl T' rfl X'
    exact ⟨t2, st.trans a1, b1⟩
theorem vx_calll {S SX : Type} {post : Int64 → S → Prop} {px : SX → Prop} {B : S → State → Prop} {BX : String → SX → State → Prop} {AX : Nat → Prop} (hr : vx_Run p l e R s m args below meth c H locs cells slots mc ms (F0 m pc ls st0) rest (va_Ql post B A1 a) (vx_X px BX AX) free) (hS : va_S A0 H0 H locs) (hA : ∀ q, q < H.size → A1 q → A0 q) (hf : ∀ q, free q → A0 q) (hAX : ∀ q, q < H.size → AX q → A0 q)
    (kx : ∀ (E : String) (ce : Cell) (q9 : Addr) (u : SX) (t : State) (H1 : Heap) (locs1 : List Loc), t.heap = H1 → s.vm.Alike t.vm → px u → BX E u t → H.size ≤ H1.size → (∀ q : Nat, q < H.size → ¬ AX q → H1[q]? = H[q]?) → va_S A0 H0 H1 locs1 → H1[q9]? = some ce → ce.vm = .none → s.vm.findClass E = some ce.cls → vx_W p l e R s m args below meth c H1 locs1 (cells + mc) (slots + ms) Q (F0 m pc ls rest) q9)
    (kk : ∀ (r : Int64) (u : S) (t : State) (H1 : Heap) (locs1 : List Loc), t.heap = H1 → s.vm.Alike t.vm → post r u → B u t → H.size ≤ H1.size → (∀ q : Nat, q < H.size → ¬ A1 q → H1[q]? = H[q]?) → va_S A0 H0 H1 locs1 → W p l e R s m args below meth c H1 locs1 (cells + mc) (slots + ms) Q (F0 m (pc + 3) ls (.long r :: rest))) : W p l e R s m args below meth c H locs cells slots Q (F0 m pc ls st0) := by
  intro T hT X
  rcases hr T hT X with ⟨v, st₀, t, T', L, h0, X', hL, e1, e2, ⟨⟨r, u, hv, hp, hb⟩, hF⟩, st⟩ | ⟨q, st₀, t, T', L, E, ce, h0, X', hL, e1, e2, ⟨u, hp, hb, hF⟩, hce, hcv, hcl, st⟩
  · cases hv
    obtain ⟨k1, k2, k3⟩ := vx_keep h0 e1 hS hA hf hL hF
    obtain ⟨t2, a1, b1⟩ := kk r u t T'.heap (locs ++ L) e1.symm (by rw [← e2]; exact X'.warmed.alike) hp hb k1 k2 k3 T' rfl X'
    exact ⟨t2, st t2 a1, b1⟩
  · obtain ⟨k1, k2, k3⟩ := vx_keep h0 e1 hS hAX hf hL hF
    obtain ⟨t2, a1, b1⟩ := kx E ce q u t T'.heap (locs ++ L) e1.symm (by rw [← e2]; exact X'.warmed.alike) hp hb k1 k2 k3 (by rw [e1]; exact hce) hcv hcl T' rfl X'
    exact ⟨t2, st.trans a1, b1⟩
theorem vx_callf {S SX : Type} {post : UInt32 → S → Prop} {px : SX → Prop} {B : S → State → Prop} {BX : String → SX → State → Prop} {AX : Nat → Prop} (hr : vx_Run p l e R s m args below meth c H locs cells slots mc ms (F0 m pc ls st0) rest (va_Qf post B A1 a) (vx_X px BX AX) free) (hS : va_S A0 H0 H locs) (hA : ∀ q, q < H.size → A1 q → A0 q) (hf : ∀ q, free q → A0 q) (hAX : ∀ q, q < H.size → AX q → A0 q)
    (kx : ∀ (E : String) (ce : Cell) (q9 : Addr) (u : SX) (t : State) (H1 : Heap) (locs1 : List Loc), t.heap = H1 → s.vm.Alike t.vm → px u → BX E u t → H.size ≤ H1.size → (∀ q : Nat, q < H.size → ¬ AX q → H1[q]? = H[q]?) → va_S A0 H0 H1 locs1 → H1[q9]? = some ce → ce.vm = .none → s.vm.findClass E = some ce.cls → vx_W p l e R s m args below meth c H1 locs1 (cells + mc) (slots + ms) Q (F0 m pc ls rest) q9)
    (kk : ∀ (r : UInt32) (u : S) (t : State) (H1 : Heap) (locs1 : List Loc), t.heap = H1 → s.vm.Alike t.vm → post r u → B u t → H.size ≤ H1.size → (∀ q : Nat, q < H.size → ¬ A1 q → H1[q]? = H[q]?) → va_S A0 H0 H1 locs1 → W p l e R s m args below meth c H1 locs1 (cells + mc) (slots + ms) Q (F0 m (pc + 3) ls (.float r :: rest))) : W p l e R s m args below meth c H locs cells slots Q (F0 m pc ls st0) := by
  intro T hT X
  rcases hr T hT X with ⟨v, st₀, t, T', L, h0, X', hL, e1, e2, ⟨⟨r, u, hv, hp, hb⟩, hF⟩, st⟩ | ⟨q, st₀, t, T', L, E, ce, h0, X', hL, e1, e2, ⟨u, hp, hb, hF⟩, hce, hcv, hcl, st⟩
  · cases hv
    obtain ⟨k1, k2, k3⟩ := vx_keep h0 e1 hS hA hf hL hF
    obtain ⟨t2, a1, b1⟩ := kk r u t T'.heap (locs ++ L) e1.symm (by rw [← e2]; exact X'.warmed.alike) hp hb k1 k2 k3 T' rfl X'
    exact ⟨t2, st t2 a1, b1⟩
  · obtain ⟨k1, k2, k3⟩ := vx_keep h0 e1 hS hAX hf hL hF
    obtain ⟨t2, a1, b1⟩ := kx E ce q u t T'.heap (locs ++ L) e1.symm (by rw [← e2]; exact X'.warmed.alike) hp hb k1 k2 k3 (by rw [e1]; exact hce) hcv hcl T' rfl X'
    exact ⟨t2, st.trans a1, b1⟩
theorem vx_calld {S SX : Type} {post : UInt64 → S → Prop} {px : SX → Prop} {B : S → State → Prop} {BX : String → SX → State → Prop} {AX : Nat → Prop} (hr : vx_Run p l e R s m args below meth c H locs cells slots mc ms (F0 m pc ls st0) rest (va_Qd post B A1 a) (vx_X px BX AX) free) (hS : va_S A0 H0 H locs) (hA : ∀ q, q < H.size → A1 q → A0 q) (hf : ∀ q, free q → A0 q) (hAX : ∀ q, q < H.size → AX q → A0 q)
    (kx : ∀ (E : String) (ce : Cell) (q9 : Addr) (u : SX) (t : State) (H1 : Heap) (locs1 : List Loc), t.heap = H1 → s.vm.Alike t.vm → px u → BX E u t → H.size ≤ H1.size → (∀ q : Nat, q < H.size → ¬ AX q → H1[q]? = H[q]?) → va_S A0 H0 H1 locs1 → H1[q9]? = some ce → ce.vm = .none → s.vm.findClass E = some ce.cls → vx_W p l e R s m args below meth c H1 locs1 (cells + mc) (slots + ms) Q (F0 m pc ls rest) q9)
    (kk : ∀ (r : UInt64) (u : S) (t : State) (H1 : Heap) (locs1 : List Loc), t.heap = H1 → s.vm.Alike t.vm → post r u → B u t → H.size ≤ H1.size → (∀ q : Nat, q < H.size → ¬ A1 q → H1[q]? = H[q]?) → va_S A0 H0 H1 locs1 → W p l e R s m args below meth c H1 locs1 (cells + mc) (slots + ms) Q (F0 m (pc + 3) ls (.double r :: rest))) : W p l e R s m args below meth c H locs cells slots Q (F0 m pc ls st0) := by
  intro T hT X
  rcases hr T hT X with ⟨v, st₀, t, T', L, h0, X', hL, e1, e2, ⟨⟨r, u, hv, hp, hb⟩, hF⟩, st⟩ | ⟨q, st₀, t, T', L, E, ce, h0, X', hL, e1, e2, ⟨u, hp, hb, hF⟩, hce, hcv, hcl, st⟩
  · cases hv
    obtain ⟨k1, k2, k3⟩ := vx_keep h0 e1 hS hA hf hL hF
    obtain ⟨t2, a1, b1⟩ := kk r u t T'.heap (locs ++ L) e1.symm (by rw [← e2]; exact X'.warmed.alike) hp hb k1 k2 k3 T' rfl X'
    exact ⟨t2, st t2 a1, b1⟩
  · obtain ⟨k1, k2, k3⟩ := vx_keep h0 e1 hS hAX hf hL hF
    obtain ⟨t2, a1, b1⟩ := kx E ce q u t T'.heap (locs ++ L) e1.symm (by rw [← e2]; exact X'.warmed.alike) hp hb k1 k2 k3 (by rw [e1]; exact hce) hcv hcl T' rfl X'
    exact ⟨t2, st.trans a1, b1⟩
theorem vx_callv {S SX : Type} {post : S → Prop} {px : SX → Prop} {B : S → State → Prop} {BX : String → SX → State → Prop} {AX : Nat → Prop} (hr : vx_Run p l e R s m args below meth c H locs cells slots mc ms (F0 m pc ls st0) rest (va_Qv post B A1 a) (vx_X px BX AX) free) (hS : va_S A0 H0 H locs) (hA : ∀ q, q < H.size → A1 q → A0 q) (hf : ∀ q, free q → A0 q) (hAX : ∀ q, q < H.size → AX q → A0 q)
    (kx : ∀ (E : String) (ce : Cell) (q9 : Addr) (u : SX) (t : State) (H1 : Heap) (locs1 : List Loc), t.heap = H1 → s.vm.Alike t.vm → px u → BX E u t → H.size ≤ H1.size → (∀ q : Nat, q < H.size → ¬ AX q → H1[q]? = H[q]?) → va_S A0 H0 H1 locs1 → H1[q9]? = some ce → ce.vm = .none → s.vm.findClass E = some ce.cls → vx_W p l e R s m args below meth c H1 locs1 (cells + mc) (slots + ms) Q (F0 m pc ls rest) q9)
    (kk : ∀ (u : S) (t : State) (H1 : Heap) (locs1 : List Loc), t.heap = H1 → s.vm.Alike t.vm → post u → B u t → H.size ≤ H1.size → (∀ q : Nat, q < H.size → ¬ A1 q → H1[q]? = H[q]?) → va_S A0 H0 H1 locs1 → W p l e R s m args below meth c H1 locs1 (cells + mc) (slots + ms) Q (F0 m (pc + 3) ls (rest))) : W p l e R s m args below meth c H locs cells slots Q (F0 m pc ls st0) := by
  intro T hT X
  rcases hr T hT X with ⟨v, st₀, t, T', L, h0, X', hL, e1, e2, ⟨⟨u, hv, hp, hb⟩, hF⟩, st⟩ | ⟨q, st₀, t, T', L, E, ce, h0, X', hL, e1, e2, ⟨u, hp, hb, hF⟩, hce, hcv, hcl, st⟩
  · cases hv
    obtain ⟨k1, k2, k3⟩ := vx_keep h0 e1 hS hA hf hL hF
    obtain ⟨t2, a1, b1⟩ := kk u t T'.heap (locs ++ L) e1.symm (by rw [← e2]; exact X'.warmed.alike) hp hb k1 k2 k3 T' rfl X'
    exact ⟨t2, st t2 a1, b1⟩
  · obtain ⟨k1, k2, k3⟩ := vx_keep h0 e1 hS hAX hf hL hF
    obtain ⟨t2, a1, b1⟩ := kx E ce q u t T'.heap (locs ++ L) e1.symm (by rw [← e2]; exact X'.warmed.alike) hp hb k1 k2 k3 (by rw [e1]; exact hce) hcv hcl T' rfl X'
    exact ⟨t2, st.trans a1, b1⟩
/-- caught by the row x of this method's table; the rows ahead don't take it -/
theorem vx_catch {own name : String} {E : String} {ce : Cell} {q : Addr} (hown : s.vm.findClass own = some m.cls) (pre : List ExceptionTableEntry) (x : ExceptionTableEntry) (suf : List ExceptionTableEntry) (hsplit : c.exceptionTable.toList = pre ++ x :: suf)
    (hpass : ∀ z ∈ pre, covers z pc = false ∨ (z.catchType ≠ 0 ∧ ∃ nm : String, (Cond.classLink own z.catchType nm).before args s = true ∧ va_Nc E nm s)) (hx : covers x pc = true) (h0 : x.catchType ≠ 0)
    (hlink : (Cond.classLink own x.catchType name).before args s = true) (hcast : (Cond.castable E name).before args s = true) (hcell : H[q]? = some ce) (hv : ce.vm = .none) (hcl : s.vm.findClass E = some ce.cls)
    (kk : W p l e R s m args below meth c H locs cells slots Q (F0 m x.handlerPc ls [.ref q])) : vx_W p l e R s m args below meth c H locs cells slots Q (F0 m pc ls rest) q := by
  intro T hT X
  have hpl : e.platform.magicAccessors = ({} : Platform).magicAccessors := by rw [X.admits.platform]
  obtain ⟨c3, c4, hc3, hc4, hasg⟩ := Cond.castable_spec hcast
  cases Option.some.inj (hc3.symm.trans hcl)
  obtain ⟨c5, hc5, hcl5⟩ := Cond.classLink_spec hown hlink e.platform hpl
  cases Option.some.inj (hc4.symm.trans hc5)
  obtain ⟨vm', X', st⟩ := X.thenCaughtThrough q (g := F0 m pc ls rest) rfl (Steps.refl _) (by rw [hT]; exact hcell) (by rw [hv]; rfl) (by obtain ⟨k9, h9, -⟩ := Vm.findClass_spec hcl; exact ⟨k9, h9⟩) pre x suf hsplit
    (fun z hz => by
      rcases hpass z hz with h | ⟨hz0, nm, hl1, hn1⟩
      · exact Or.inl h
      · obtain ⟨c6, hc6, hcl6⟩ := Cond.classLink_spec hown hl1 e.platform hpl
        obtain ⟨a8, b8, h1, h2, h3⟩ := hn1
        cases Option.some.inj (h1.symm.trans hcl)
        cases Option.some.inj (h2.symm.trans hc6)
        exact Or.inr ⟨hz0, _, hcl6, h3⟩) hx (Or.inr ⟨h0, c4, hcl5, hasg⟩)
  obtain ⟨t, a1, b1⟩ := kk (T.setVm vm') hT X'
  exact ⟨t, st.trans a1, b1⟩
end Rows
section Ends
variable {p : Program} {l : Launch} {e : Env} {R : Room} {s : State} {m : MethodId} {args : Array Value} {below : List Frame} {meth : Method} {c : Code} {H : Heap} {locs : List Loc} {cells slots : Nat} {Q : State → Prop}
variable {mc ms : Nat} {free : Addr → Prop} {A0 A1 : Nat → Prop} {H0 : Heap} {a : Array Value} {ls : Array Slot} {st0 rest : List Value}
variable {Qc : Array Value → State → Outcome → State → Prop} {XC : String → State → State → Prop}
/-- what a body that may throw owes at its end -/
def vx_MQ (below : List Frame) (Qc : Array Value → State → Outcome → State → Prop) (XC : String → State → State → Prop) (a : Array Value) (s : State) (mc ms : Nat) (free : Addr → Prop) : State → Prop := fun t =>
  ∃ o, t.status = .running ∧ Ended t below o ∧ vx_Q Qc XC mc ms free a s o t
theorem vx_ret {g : JFrame} {mc ms : Nat} (k : W p l e R s m args below meth c H locs cells slots (MQ below Qc args s mc ms free) g) : W p l e R s m args below meth c H locs cells slots (vx_MQ below Qc XC args s mc ms free) g := by
  intro T hT X
  obtain ⟨t, a1, o, b1, b2, b3, b4⟩ := k T hT X
  exact ⟨t, a1, o, b1, b2, Or.inl ⟨b3, b4⟩⟩
/-- not caught here: it goes on to the caller -/
theorem vx_widen {g : JFrame} {q : Addr} {k n : Nat} (h1 : cells ≤ k) (h2 : slots ≤ n) (kk : vx_W p l e R s m args below meth c H locs k n Q g q) : vx_W p l e R s m args below meth c H locs cells slots Q g q := fun T hT X => kk T hT (stand_widen X h1 h2)
theorem vx_out {pc : Nat} {E : String} {ce : Cell} {q : Addr} {mc ms : Nat} (hout : ∀ x ∈ c.exceptionTable.toList, covers x pc = false) (hlocks : meth.locks = false) (hcell : H[q]? = some ce) (hv : ce.vm = .none) (hcl : s.vm.findClass E = some ce.cls)
    (hx : ∀ t : State, t.heap = H → s.vm.Alike t.vm → XC E s t) (hf : ∀ z ∈ locs, free z.base) (hc : cells ≤ mc) (hs : slots ≤ ms) :
    vx_W p l e R s m args below meth c H locs cells slots (vx_MQ below Qc XC args s mc ms free) (F0 m pc ls rest) q := by
  intro T hT X
  obtain ⟨st1, hrun, hend, hW, hsm⟩ := X.leaveThrown q (g := F0 m pc ls rest) rfl rfl rfl hout hlocks
  have hcell9 : (T.setFrames (.throwing q :: below)).heap[q]? = some ce := by
    show T.heap[q]? = some ce
    rw [hT]; exact hcell
  exact ⟨_, st1, .threw q, hrun, hend, Or.inr ⟨q, rfl, E, ce, locs, hx _ hT hW.alike, hcell9, hv, hcl, hW, hsm.mono hc hs, hf⟩⟩
theorem vx_frame {U : State} {k n : Nat} (h : s.sameButNew ({ U with vm := s.vm } : State) locs k n) : s.heap.size ≤ U.heap.size ∧ ∀ q : Nat, q < s.heap.size → (∀ z ∈ locs, z.base ≠ q) → U.heap[q]? = s.heap[q]? := by
  obtain ⟨-, h2, -, -, -, h6⟩ := h
  refine ⟨h2, fun q hq hz => ?_⟩
  obtain ⟨c9, e1, e2, e3, e4⟩ := h6 q _ (Array.getElem?_eq_getElem hq)
  have hs : c9.slots = (s.heap[q]).slots := Array.ext_getElem? fun i => e4 i fun hm => hz _ hm rfl
  have h9 : c9 = s.heap[q] := by
    rw [hs] at e2
    exact e2
  have e5 : U.heap[q]? = some c9 := e1
  rw [e5, h9, Array.getElem?_eq_getElem hq]
/-- the words of a throw but the four that speak of the heap -/
def vx_no (w : Cond) : Bool := decide (w ≠ .isRef (.static Bundle.tN "UNASSIGNED_STACK" Bundle.steD)) && decide (w ≠ .isRef (.static Bundle.tN "SUPPRESSED_SENTINEL" Bundle.listD)) && decide (w ≠ .laysStatic Bundle.tN "UNASSIGNED_STACK" Bundle.steD) && decide (w ≠ .laysStatic Bundle.tN "SUPPRESSED_SENTINEL" Bundle.listD)
def vx_at0 (own : String) (ic : Nat) (X : String) (names : List String) : List Cond := (Bundle.ownAtoms0 own ic X names).filter vx_no
def vx_atS (own : String) (ic : Nat) (X : String) (names : List String) : List Cond := (Bundle.ownAtoms own ic X names).filter vx_no
/-- a word that the tables alone decide, or a good one -/
def vx_ot (w : Cond) : Bool := w.onTables || goodWord w
theorem vx_ot_at {args a' : Array Value} {s U : State} {w : Cond} (hW : s.WarmedH U.vm) (hvm : s.vm = U.vm) (hg : vx_ot w = true) (h : w.before args s = true) : w.before a' U = true := by
  simp only [vx_ot, Bool.or_eq_true] at hg
  rcases hg with hg | hg
  · exact va_tabs hg hvm h
  · exact word_at hW (good_of_word hg) h
/-- a list's words: the good ones out of the method's own list, the others by premises of their own -/
theorem vx_hat {args : Array Value} {s : State} {L B : List Cond} (h1 : ∀ w ∈ L.filter goodWord, w.before args s = true) (h2 : ∀ w ∈ L.filter (fun w => !goodWord w), w ∈ B) (h3 : ∀ w ∈ B, w.before args s = true) : ∀ w ∈ L, w.before args s = true := by
  intro w hw
  by_cases g : goodWord w = true
  · exact h1 w (List.mem_filter.mpr ⟨hw, g⟩)
  · refine h3 w (h2 w (List.mem_filter.mpr ⟨hw, ?_⟩))
    show (!goodWord w) = true
    cases hgw : goodWord w
    · rfl
    · exact absurd hgw g
theorem vx_c {args : Array Value} {s : State} {w : Cond} {B : List Cond} (h : w.before args s = true) (t : ∀ w ∈ B, w.before args s = true) : ∀ w' ∈ w :: B, w'.before args s = true := fun w' h' => (List.mem_cons.mp h').elim (fun e => by rw [e]; exact h) (t w')
theorem vx_n {args : Array Value} {s : State} : ∀ w ∈ ([] : List Cond), w.before args s = true := fun _ h => nomatch h
theorem vx_own {args : Array Value} {s : State} {L : List Cond} (h1 : ∀ w ∈ L.filter vx_no, w.before args s = true)
    (hU : (Cond.isRef (.static Bundle.tN "UNASSIGNED_STACK" Bundle.steD)).before args s = true) (hN : (Cond.isRef (.static Bundle.tN "SUPPRESSED_SENTINEL" Bundle.listD)).before args s = true)
    (lU : (Cond.laysStatic Bundle.tN "UNASSIGNED_STACK" Bundle.steD).before args s = true) (lN : (Cond.laysStatic Bundle.tN "SUPPRESSED_SENTINEL" Bundle.listD).before args s = true) : ∀ w ∈ L, w.before args s = true := by
  intro w hw
  by_cases e1 : w = .isRef (.static Bundle.tN "UNASSIGNED_STACK" Bundle.steD)
  · rw [e1]; exact hU
  · by_cases e2 : w = .isRef (.static Bundle.tN "SUPPRESSED_SENTINEL" Bundle.listD)
    · rw [e2]; exact hN
    · by_cases e3 : w = .laysStatic Bundle.tN "UNASSIGNED_STACK" Bundle.steD
      · rw [e3]; exact lU
      · by_cases e4 : w = .laysStatic Bundle.tN "SUPPRESSED_SENTINEL" Bundle.listD
        · rw [e4]; exact lN
        · exact h1 w (List.mem_filter.mpr ⟨hw, by unfold vx_no; rw [decide_eq_true e1, decide_eq_true e2, decide_eq_true e3, decide_eq_true e4]; rfl⟩)
/-- where a static field lies, its class's statics cell in H -/
def vx_L (C n d : String) (A : Nat → Prop) (U : State) (H : Heap) : Prop := ∃ (c : ClassId) (k : Class) (i : Nat) (f : Field) (a : Nat) (cell : Cell), U.vm.findClass C = some c ∧ U.fieldFound? C n d = some (c, k, i, f) ∧ f.isStatic = true ∧ k.statics = some a ∧ H[a]? = some cell ∧ cell.vm.isStatics = true ∧ cell.cls = c ∧ f.slot < cell.slots.size ∧ k.staticTypes[f.slot]? = some f.type ∧ ¬ A a
theorem vx_L.moved {C n d : String} {A : Nat → Prop} {u U : State} {H : Heap} (hvm : u.vm.Alike U.vm) (h : vx_L C n d A u H) : vx_L C n d A U H := by
  obtain ⟨c, k, i, f, a, cell, h1, h2, h3, h4, h5, h6, h7, h8, h9, h10⟩ := h
  obtain ⟨k', hi', he⟩ := State.fieldFound?_setVm hvm h2
  exact ⟨c, k', i, f, a, cell, by rw [hvm.findClass]; exact h1, hi', h3, by rw [he]; exact h4, h5, h6, h7, h8, by rw [he]; exact h9, h10⟩
theorem vx_L.kept {C n d : String} {A : Nat → Prop} {U : State} {H H1 : Heap} (h : vx_L C n d A U H) (hq : ∀ a : Nat, a < H.size → ¬ A a → H1[a]? = H[a]?) : vx_L C n d A U H1 := by
  obtain ⟨c, k, i, f, a, cell, h1, h2, h3, h4, h5, h6, h7, h8, h9, h10⟩ := h
  exact ⟨c, k, i, f, a, cell, h1, h2, h3, h4, by rw [hq a (Array.getElem?_eq_some_iff.mp h5).1 h10]; exact h5, h6, h7, h8, h9, h10⟩
theorem vx_L.narrow {C n d : String} {A B : Nat → Prop} {U : State} {H : Heap} (h : vx_L C n d A U H) (hAB : ∀ q, B q → A q) : vx_L C n d B U H := by
  obtain ⟨c, k, i, f, a, cell, h1, h2, h3, h4, h5, h6, h7, h8, h9, h10⟩ := h
  exact ⟨c, k, i, f, a, cell, h1, h2, h3, h4, h5, h6, h7, h8, h9, fun z => h10 (hAB _ z)⟩
theorem vx_L.word {C n d : String} {A : Nat → Prop} {s : State} {args : Array Value} (h : vx_L C n d A s s.heap) : (Cond.laysStatic C n d).before args s = true := by
  obtain ⟨c, k, i, f, a, cell, h1, h2, h3, h4, h5, h6, h7, h8, h9, -⟩ := h
  show (Cond.laysStatic C n d).holds args s none s [] = true
  exact Cond.laysStatic_of h1 h2 h3 h4 h5 h6 h7 h8 h9
/-- .. and what it holds: null or some reference -/
def vx_Zq (C n d : String) (A : Nat → Prop) (U : State) (H : Heap) : Prop := va_Zq C n d A U H ∧ vx_L C n d A U H
theorem vx_Zq.moved {C n d : String} {A : Nat → Prop} {u U : State} {H : Heap} (hvm : u.vm.Alike U.vm) (h : vx_Zq C n d A u H) : vx_Zq C n d A U H := ⟨va_Zq.moved hvm h.1, vx_L.moved hvm h.2⟩
theorem vx_Zq.kept {C n d : String} {A : Nat → Prop} {U : State} {H H1 : Heap} (h : vx_Zq C n d A U H) (hq : ∀ a : Nat, a < H.size → ¬ A a → H1[a]? = H[a]?) : vx_Zq C n d A U H1 := ⟨va_Zq.kept h.1 hq, vx_L.kept h.2 hq⟩
theorem vx_Zq.narrow {C n d : String} {A B : Nat → Prop} {U : State} {H : Heap} (h : vx_Zq C n d A U H) (hAB : ∀ q, B q → A q) : vx_Zq C n d B U H := ⟨va_Zq.narrow h.1 hAB, vx_L.narrow h.2 hAB⟩
theorem vx_Zqof {args : Array Value} {s : State} {C n d : String} {A : Nat → Prop} (hl : (Cond.laysStatic C n d).before args s = true) (hini : (Cond.initialized C).before args s = true) (h : (Cond.isRef (.static C n d)).before args s = true) (hA : ∀ a : Nat, a < s.heap.size → ¬ A a) : vx_Zq C n d A s s.heap := by
  refine ⟨va_Zqof hl hini h hA, ?_⟩
  obtain ⟨c, k, i, f, a, cell, h1, h2, h3, h4, h5, h6, h7, h8, h9⟩ := Cond.laysStatic_spec hl
  exact ⟨c, k, i, f, a, cell, h1, h2, h3, h4, h5, h6, h7, h8, h9, hA a (Array.getElem?_eq_some_iff.mp h5).1⟩
theorem vx_isRef {C n d : String} {v : Value} {A : Nat → Prop} {s : State} {args : Array Value} (h : va_Z C n d v A s s.heap) (hv : v.isRef = true) : (Cond.isRef (.static C n d)).before args s = true := by
  obtain ⟨cf, kf, fi, f, a, cell, h1, h2, h3, h4, h5, h6, h7, -⟩ := h
  have he : (Term.static C n d).eval args s none [] s = some v := by
    simp [Term.eval, State.fieldNamed?, h1, h2, h4, h5, h6, h7]
  simp only [Cond.before, Cond.holds, Cond.value, he]
  cases v <;> simp_all [Value.isRef]
theorem vx_isRefq {C n d : String} {A : Nat → Prop} {s : State} {args : Array Value} (h : va_Zq C n d A s s.heap) : (Cond.isRef (.static C n d)).before args s = true := by
  rcases h with h | ⟨t, h⟩
  · exact vx_isRef h rfl
  · exact vx_isRef h rfl
/-- the same frame, seen from here: as if the method were called anew in this heap -/
theorem vx_rebase {T : State} (X : Stand p l e R s m args below meth c T locs cells slots) {R' : Room} (hf : R'.frames ≤ R.frames) (hl : R'.locals ≤ R.locals) (hc : cells + R'.cells ≤ R.cells) (hs : slots + R'.slots ≤ R.slots) :
    Stand p l e R' ((T.setVm s.vm).setFrames (.invoking m args :: below)) m args below meth c T [] 0 0 := by
  have htop : (T.setVm s.vm).topJava?.isSome := X.here.top
  have hF : ((T.setVm s.vm).setFrames (.invoking m args :: below)).frames = .invoking m args :: below := State.frames_setFrames _ (State.cur_lt_of_top htop)
  obtain ⟨g₀, hg0⟩ := Option.isSome_iff_exists.mp htop
  obtain ⟨r, hr⟩ := State.topJava?_eq_some.mp hg0
  have hl9 : e.platform.stackLimits (T.setVm s.vm).me = e.platform.stackLimits s.me := X.limits
  have hb9 : (T.setVm s.vm).me.stackBytes = s.me.stackBytes := X.bytes
  refine ⟨X.admits, X.cas, X.clock, hF, ?_, X.hears, X.method, X.code, X.here, X.tail, X.warmed, ?_, ?_, ?_⟩
  · have h := X.room
    have hU : ((T.setVm s.vm).setFrames (.invoking m args :: below)).localsInUse = s.localsInUse := by
      rw [State.localsInUse_invoking hF (meth := meth) (c := c) X.method X.code, State.localsInUse_invoking X.frames X.method X.code]
    simp only [State.hasRoom, Bool.and_eq_true, decide_eq_true_eq] at h ⊢
    obtain ⟨⟨⟨⟨h1, h2, h3, h4, h5, h6⟩, h7⟩, h8⟩, h9⟩ := h
    rw [X.frames, List.length_cons] at h2 h3
    have q1 := X.heapSize
    have q2 := X.used
    simp only [hF, hU, List.length_cons, State.stackLimits_setFrames, State.stackBytes_setFrames, hl9, hb9]
    refine ⟨⟨⟨⟨by omega, by omega, by omega, by omega, by omega, h6⟩, ?_⟩, ?_⟩, X.book⟩
    · show T.heap.size + R'.cells ≤ e.platform.maxCells
      omega
    · show T.slotsUsed + R'.slots ≤ e.platform.maxSlots
      omega
  · rw [State.stackLimits_setFrames]; rfl
  · rw [State.stackBytes_setFrames]; rfl
  · refine ⟨?_, Nat.le_refl _, Nat.le_refl _, ?_, ?_, fun a c9 h9 => ⟨c9, h9, rfl, rfl, fun _ _ => rfl⟩⟩
    · obtain ⟨t, ht, -⟩ := State.frames_cons hr
      show T.setVm s.vm = { ((T.setVm s.vm).setFrames (.invoking m args :: below)).setFrames (T.setVm s.vm).frames with heap := T.heap, slotsUsed := T.slotsUsed }
      rw [State.setFrames_setFrames, State.setFrames_self ht]
      rfl
    · show T.slotsUsed = T.slotsUsed + ((T.heap.toList.drop T.heap.size).map (·.slots.size)).sum
      rw [List.drop_eq_nil_of_le (Nat.le_of_eq Array.length_toList)]
      rfl
    · show ((T.heap.toList.drop T.heap.size).map (·.slots.size)).sum ≤ 0
      rw [List.drop_eq_nil_of_le (Nat.le_of_eq Array.length_toList)]
      exact Nat.le_refl _
/-- 'throw new E()': new; dup; invokespecial; athrow -/
theorem vx_throw0 {cc : ByteArray} {pc : Nat} (hexec : p.tables.exec = Jvm.exec) (hb : c.code = cc) (hl : l.stackTraces = false) {own cls : String} {names : List String} {ik ic mc ms : Nat} {A : Nat → Prop}
    (hown : s.vm.findClass own = some m.cls) (hcls : Bundle.fit cls = true) (hnames : ∀ n ∈ names, Bundle.fit n = true)
    (hk : (Cond.classLink own ik cls).before args s = true) (hini : (Cond.initialized cls).before args s = true) (hat : ∀ w ∈ vx_at0 own ic cls names, w.before args s = true)
    (hgood : ∀ w ∈ Cond.classLink own ik cls :: Cond.initialized cls :: vx_at0 own ic cls names, vx_ot w = true)
    (hU : vx_Zq Bundle.tN "UNASSIGNED_STACK" Bundle.steD A s s.heap) (hN : vx_Zq Bundle.tN "SUPPRESSED_SENTINEL" Bundle.listD A s s.heap) (hS : va_S A s.heap H locs) (hsize : ls.size = c.maxLocals)
    (d0 : decode cc pc = .ok (.new ik, 3)) (d3 : decode cc (pc + 3) = .ok (.dup, 1)) (d4 : decode cc (pc + 4) = .ok (.invokespecial ic, 3)) (d7 : decode cc (pc + 7) = .ok (.athrow, 1))
    (hout : ∀ x ∈ c.exceptionTable.toList, covers x (pc + 7) = false)
    (hRframes : names.length + 3 < R.frames) (hRlocals : (rest.map fun v => v.category).sum + (13 * (names.length + 1) + 42) ≤ R.locals) (hRcells : cells + 1 ≤ R.cells) (hRslots : slots + 6 ≤ R.slots) (hlocks : meth.locks = false)
    (hx : ∀ t : State, s.vm.Alike t.vm → H.size ≤ t.heap.size → (∀ q : Nat, q < H.size → t.heap[q]? = H[q]?) → XC cls s t)
    (hf : ∀ z ∈ locs, free z.base) (hc : cells + 1 ≤ mc) (hs : slots + 6 ≤ ms) :
    W p l e R s m args below meth c H locs cells slots (vx_MQ below Qc XC args s mc ms free) (F0 m pc ls rest) := by
  intro T hT X
  have htr : e.platform.stackTraces = false := (show e.platform.stackTraces = l.stackTraces by rw [X.admits.platform]).trans hl
  have Y := vx_rebase X (R' := { frames := R.frames, locals := R.locals, cells := 1, slots := 6 }) (Nat.le_refl _) (Nat.le_refl _) hRcells hRslots
  obtain ⟨s', hA⟩ : ∃ z, z = (T.setVm s.vm).setFrames (.invoking m args :: below) := ⟨_, rfl⟩
  rw [← hA] at Y
  have hvm : s'.vm = s.vm := by rw [hA]; rfl
  have hhp : s'.heap = H := by rw [hA]; exact hT
  have hW0 : s.WarmedH s'.vm := by rw [hvm]; exact State.WarmedH.refl s
  have hat' : ∀ w ∈ vx_at0 own ic cls names, w.before args s' = true := fun w hw => vx_ot_at hW0 hvm.symm (hgood w (List.mem_cons_of_mem _ (List.mem_cons_of_mem _ hw))) (hat w hw)
  have hk' : (Cond.classLink own ik cls).before args s' = true := vx_ot_at hW0 hvm.symm (hgood _ List.mem_cons_self) hk
  have hini' : (Cond.initialized cls).before args s' = true := vx_ot_at hW0 hvm.symm (hgood _ (List.mem_cons_of_mem _ List.mem_cons_self)) hini
  have hU' : vx_Zq Bundle.tN "UNASSIGNED_STACK" Bundle.steD A s' s'.heap := by rw [hhp]; exact vx_Zq.moved hW0.alike (hU.kept hS.2.1)
  have hN' : vx_Zq Bundle.tN "SUPPRESSED_SENTINEL" Bundle.listD A s' s'.heap := by rw [hhp]; exact vx_Zq.moved hW0.alike (hN.kept hS.2.1)
  have h : ∀ w ∈ Bundle.ownAtoms0 own ic cls names, w.before args s' = true := vx_own hat' (vx_isRefq hU'.1) (vx_isRefq hN'.1) hU'.2.word hN'.2.word
  have hown' : s'.vm.findClass own = some m.cls := by rw [hvm]; exact hown
  have hins : (Cond.instantiable cls 6).before args s' = true := h _ (by simp [Bundle.ownAtoms0])
  obtain ⟨vm₁, cX, kX, hfX, hkX, -, -, X₁, st1⟩ := Y.newCold hexec (own := own) (C := cls) (index := ik) (n := 6) hown' hk' hins hini'
    (g := F0 m pc ls rest) rfl (by rw [hb]; exact d0) (Nat.le_refl _) (Nat.le_refl _)
  generalize hT1 : (T.setVm vm₁).pushCell { cls := cX, slots := kX.instanceTypes.map defaultValue, vm := .none } = T1 at X₁ st1
  have hcat : (Value.ref T.heap.size).category = 1 := rfl
  have hcellA : T1.heap[T.heap.size]? = some (freshCell cX kX) := by rw [← hT1]; exact State.heap_pushCell_size _ _
  have d3' : decode c.code (pc + 3) = .ok (.dup, 1) := by rw [hb]; exact d3
  obtain ⟨U, hsteps, hrun, hend, hW, hsame, ce, hce, hO⟩ := X₁.ctorThrow0 hexec htr (own := own) (cls := cls) (names := names) (ic := ic) hown' hcls hnames h (fun x hx => nomatch hx) hfX hkX hcellA (by rw [hhp, hT]; exact Nat.le_refl _)
    (g := { method := m, pc := pc + 4, locals := ls, stack := .ref T.heap.size :: .ref T.heap.size :: rest, locked := none }) rfl hsize rfl rfl (rest := rest) rfl
    (by rw [hb]; exact d4) (by rw [hb]; exact d7) hout hRframes (by simp only [List.map_cons, List.sum_cons, hcat]; omega) hlocks
  obtain ⟨f1, f2⟩ := vx_frame hsame
  rw [hhp] at f1 f2
  have hWs : s.WarmedH U.vm := State.WarmedH.trans hW0 hW
  have hcl : s.vm.findClass cls = some ce.cls := by
    have h9 := hO.cls
    rw [hvm] at h9
    exact h9
  have hall : s.sameButNew ({ U with vm := s.vm } : State) locs mc ms := by
    subst hA
    obtain ⟨e1, e2⟩ := hsame
    rw [State.setFrames_setFrames] at e1
    have h2 : (T.setVm s.vm).sameButNew ({ U with vm := s.vm } : State) [] (0 + 1) (0 + 6) := ⟨e1, e2⟩
    have h3 := X.same.trans h2
    rw [List.append_nil] at h3
    exact h3.mono hc hs
  refine ⟨U, ?_, .threw T.heap.size, hrun, hend, Or.inr ⟨T.heap.size, rfl, cls, ce, locs, hx U hWs.alike f1 (fun q hq => f2 q hq (fun z hz => nomatch hz)), hce, hO.vm, hcl, hWs, hall, hf⟩⟩
  refine st1 _ ?_
  show Steps p.tables e below (T1.setTop { method := m, pc := pc + 3, locals := ls, stack := .ref T.heap.size :: rest, locked := none }) _
  jvm_step X₁.here [X₁.here.top, hexec, d3', Value.category]
  exact hsteps
/-- 'throw new E("text")': new; dup; ldc; invokespecial; athrow -/
theorem vx_throwS {cc : ByteArray} {pc : Nat} (hexec : p.tables.exec = Jvm.exec) (hb : c.code = cc) (hl : l.stackTraces = false) {own cls text : String} {names : List String} {ik is ic mc ms sa : Nat} {A : Nat → Prop}
    (hown : s.vm.findClass own = some m.cls) (hcls : Bundle.fit cls = true) (hnames : ∀ n ∈ names, Bundle.fit n = true)
    (hk : (Cond.classLink own ik cls).before args s = true) (hini : (Cond.initialized cls).before args s = true) (hstr : vk_R own is text sa s) (hat : ∀ w ∈ vx_atS own ic cls names, w.before args s = true)
    (hgood : ∀ w ∈ Cond.classLink own ik cls :: Cond.initialized cls :: vx_atS own ic cls names, vx_ot w = true)
    (hU : vx_Zq Bundle.tN "UNASSIGNED_STACK" Bundle.steD A s s.heap) (hN : vx_Zq Bundle.tN "SUPPRESSED_SENTINEL" Bundle.listD A s s.heap) (hS : va_S A s.heap H locs) (hsize : ls.size = c.maxLocals)
    (d0 : decode cc pc = .ok (.new ik, 3)) (d3 : decode cc (pc + 3) = .ok (.dup, 1)) (d4 : decode cc (pc + 4) = .ok (.ldc is, 2)) (d6 : decode cc (pc + 6) = .ok (.invokespecial ic, 3)) (d9 : decode cc (pc + 9) = .ok (.athrow, 1))
    (hout : ∀ x ∈ c.exceptionTable.toList, covers x (pc + 9) = false)
    (hRframes : names.length + 3 < R.frames) (hRlocals : (rest.map fun v => v.category).sum + (13 * (names.length + 1) + 43) ≤ R.locals) (hRcells : cells + 1 ≤ R.cells) (hRslots : slots + 6 ≤ R.slots) (hlocks : meth.locks = false)
    (hx : ∀ t : State, s.vm.Alike t.vm → H.size ≤ t.heap.size → (∀ q : Nat, q < H.size → t.heap[q]? = H[q]?) → XC cls s t)
    (hf : ∀ z ∈ locs, free z.base) (hc : cells + 1 ≤ mc) (hs : slots + 6 ≤ ms) :
    W p l e R s m args below meth c H locs cells slots (vx_MQ below Qc XC args s mc ms free) (F0 m pc ls rest) := by
  intro T hT X
  have htr : e.platform.stackTraces = false := (show e.platform.stackTraces = l.stackTraces by rw [X.admits.platform]).trans hl
  have Y := vx_rebase X (R' := { frames := R.frames, locals := R.locals, cells := 1, slots := 6 }) (Nat.le_refl _) (Nat.le_refl _) hRcells hRslots
  obtain ⟨s', hA⟩ : ∃ z, z = (T.setVm s.vm).setFrames (.invoking m args :: below) := ⟨_, rfl⟩
  rw [← hA] at Y
  have hvm : s'.vm = s.vm := by rw [hA]; rfl
  have hhp : s'.heap = H := by rw [hA]; exact hT
  have hW0 : s.WarmedH s'.vm := by rw [hvm]; exact State.WarmedH.refl s
  have hat' : ∀ w ∈ vx_atS own ic cls names, w.before args s' = true := fun w hw => vx_ot_at hW0 hvm.symm (hgood w (List.mem_cons_of_mem _ (List.mem_cons_of_mem _ hw))) (hat w hw)
  have hk' : (Cond.classLink own ik cls).before args s' = true := vx_ot_at hW0 hvm.symm (hgood _ List.mem_cons_self) hk
  have hini' : (Cond.initialized cls).before args s' = true := vx_ot_at hW0 hvm.symm (hgood _ (List.mem_cons_of_mem _ List.mem_cons_self)) hini
  have hU' : vx_Zq Bundle.tN "UNASSIGNED_STACK" Bundle.steD A s' s'.heap := by rw [hhp]; exact vx_Zq.moved hW0.alike (hU.kept hS.2.1)
  have hN' : vx_Zq Bundle.tN "SUPPRESSED_SENTINEL" Bundle.listD A s' s'.heap := by rw [hhp]; exact vx_Zq.moved hW0.alike (hN.kept hS.2.1)
  have h : ∀ w ∈ Bundle.ownAtoms own ic cls names, w.before args s' = true := vx_own hat' (vx_isRefq hU'.1) (vx_isRefq hN'.1) hU'.2.word hN'.2.word
  have hown' : s'.vm.findClass own = some m.cls := by rw [hvm]; exact hown
  have hins : (Cond.instantiable cls 6).before args s' = true := h _ (by simp [Bundle.ownAtoms])
  obtain ⟨vm₁, cX, kX, hfX, hkX, -, -, X₁, st1⟩ := Y.newCold hexec (own := own) (C := cls) (index := ik) (n := 6) hown' hk' hins hini'
    (g := F0 m pc ls rest) rfl (by rw [hb]; exact d0) (Nat.le_refl _) (Nat.le_refl _)
  generalize hT1 : (T.setVm vm₁).pushCell { cls := cX, slots := kX.instanceTypes.map defaultValue, vm := .none } = T1 at X₁ st1
  have hcat : (Value.ref T.heap.size).category = 1 := rfl
  have hcellA : T1.heap[T.heap.size]? = some (freshCell cX kX) := by rw [← hT1]; exact State.heap_pushCell_size _ _
  have d3' : decode c.code (pc + 3) = .ok (.dup, 1) := by rw [hb]; exact d3
  have d4' : decode c.code (pc + 4) = .ok (.ldc is, 2) := by rw [hb]; exact d4
  have hstr' : vk_R own is text sa s' := vk_R.warm hW0 hstr
  obtain ⟨U, hsteps, hrun, hend, hW, hsame, ce, hce, hO⟩ := X₁.ctorThrowS hexec htr (own := own) (cls := cls) (names := names) (ic := ic) hown' hcls hnames h (fun x hx => nomatch hx) hfX hkX hcellA (by rw [hhp, hT]; exact Nat.le_refl _) (msg := .ref sa) rfl
    (g := { method := m, pc := pc + 6, locals := ls, stack := .ref sa :: .ref T.heap.size :: .ref T.heap.size :: rest, locked := none }) rfl hsize rfl rfl (rest := rest) rfl
    (by rw [hb]; exact d6) (by rw [hb]; exact d9) hout hRframes (by simp only [List.map_cons, List.sum_cons, hcat]; omega) hlocks
  obtain ⟨f1, f2⟩ := vx_frame hsame
  rw [hhp] at f1 f2
  have hWs : s.WarmedH U.vm := State.WarmedH.trans hW0 hW
  have hcl : s.vm.findClass cls = some ce.cls := by
    have h9 := hO.cls
    rw [hvm] at h9
    exact h9
  have hall : s.sameButNew ({ U with vm := s.vm } : State) locs mc ms := by
    subst hA
    obtain ⟨e1, e2⟩ := hsame
    rw [State.setFrames_setFrames] at e1
    have h2 : (T.setVm s.vm).sameButNew ({ U with vm := s.vm } : State) [] (0 + 1) (0 + 6) := ⟨e1, e2⟩
    have h3 := X.same.trans h2
    rw [List.append_nil] at h3
    exact h3.mono hc hs
  refine ⟨U, ?_, .threw T.heap.size, hrun, hend, Or.inr ⟨T.heap.size, rfl, cls, ce, locs, hx U hWs.alike f1 (fun q hq => f2 q hq (fun z hz => nomatch hz)), hce, hO.vm, hcl, hWs, hall, hf⟩⟩
  refine st1 _ ?_
  show Steps p.tables e below (T1.setTop { method := m, pc := pc + 3, locals := ls, stack := .ref T.heap.size :: rest, locked := none }) _
  jvm_step X₁.here [X₁.here.top, hexec, d3', Value.category]
  exact X₁.ldcString hexec (own := own) (text := text) (index := is) (a := sa) hown' hstr'.1 hstr'.2
    (g := { method := m, pc := pc + 4, locals := ls, stack := .ref T.heap.size :: .ref T.heap.size :: rest, locked := none }) rfl d4' _ hsteps
/-- 'throw new E("text")', the text by a wide index -/
theorem vx_throwSW {cc : ByteArray} {pc : Nat} (hexec : p.tables.exec = Jvm.exec) (hb : c.code = cc) (hl : l.stackTraces = false) {own cls text : String} {names : List String} {ik is ic mc ms sa : Nat} {A : Nat → Prop}
    (hown : s.vm.findClass own = some m.cls) (hcls : Bundle.fit cls = true) (hnames : ∀ n ∈ names, Bundle.fit n = true)
    (hk : (Cond.classLink own ik cls).before args s = true) (hini : (Cond.initialized cls).before args s = true) (hstr : vk_R own is text sa s) (hat : ∀ w ∈ vx_atS own ic cls names, w.before args s = true)
    (hgood : ∀ w ∈ Cond.classLink own ik cls :: Cond.initialized cls :: vx_atS own ic cls names, vx_ot w = true)
    (hU : vx_Zq Bundle.tN "UNASSIGNED_STACK" Bundle.steD A s s.heap) (hN : vx_Zq Bundle.tN "SUPPRESSED_SENTINEL" Bundle.listD A s s.heap) (hS : va_S A s.heap H locs) (hsize : ls.size = c.maxLocals)
    (d0 : decode cc pc = .ok (.new ik, 3)) (d3 : decode cc (pc + 3) = .ok (.dup, 1)) (d4 : decode cc (pc + 4) = .ok (.ldc_w is, 3)) (d7 : decode cc (pc + 7) = .ok (.invokespecial ic, 3)) (d10 : decode cc (pc + 10) = .ok (.athrow, 1))
    (hout : ∀ x ∈ c.exceptionTable.toList, covers x (pc + 10) = false)
    (hRframes : names.length + 3 < R.frames) (hRlocals : (rest.map fun v => v.category).sum + (13 * (names.length + 1) + 43) ≤ R.locals) (hRcells : cells + 1 ≤ R.cells) (hRslots : slots + 6 ≤ R.slots) (hlocks : meth.locks = false)
    (hx : ∀ t : State, s.vm.Alike t.vm → H.size ≤ t.heap.size → (∀ q : Nat, q < H.size → t.heap[q]? = H[q]?) → XC cls s t)
    (hf : ∀ z ∈ locs, free z.base) (hc : cells + 1 ≤ mc) (hs : slots + 6 ≤ ms) :
    W p l e R s m args below meth c H locs cells slots (vx_MQ below Qc XC args s mc ms free) (F0 m pc ls rest) := by
  intro T hT X
  have htr : e.platform.stackTraces = false := (show e.platform.stackTraces = l.stackTraces by rw [X.admits.platform]).trans hl
  have Y := vx_rebase X (R' := { frames := R.frames, locals := R.locals, cells := 1, slots := 6 }) (Nat.le_refl _) (Nat.le_refl _) hRcells hRslots
  obtain ⟨s', hA⟩ : ∃ z, z = (T.setVm s.vm).setFrames (.invoking m args :: below) := ⟨_, rfl⟩
  rw [← hA] at Y
  have hvm : s'.vm = s.vm := by rw [hA]; rfl
  have hhp : s'.heap = H := by rw [hA]; exact hT
  have hW0 : s.WarmedH s'.vm := by rw [hvm]; exact State.WarmedH.refl s
  have hat' : ∀ w ∈ vx_atS own ic cls names, w.before args s' = true := fun w hw => vx_ot_at hW0 hvm.symm (hgood w (List.mem_cons_of_mem _ (List.mem_cons_of_mem _ hw))) (hat w hw)
  have hk' : (Cond.classLink own ik cls).before args s' = true := vx_ot_at hW0 hvm.symm (hgood _ List.mem_cons_self) hk
  have hini' : (Cond.initialized cls).before args s' = true := vx_ot_at hW0 hvm.symm (hgood _ (List.mem_cons_of_mem _ List.mem_cons_self)) hini
  have hU' : vx_Zq Bundle.tN "UNASSIGNED_STACK" Bundle.steD A s' s'.heap := by rw [hhp]; exact vx_Zq.moved hW0.alike (hU.kept hS.2.1)
  have hN' : vx_Zq Bundle.tN "SUPPRESSED_SENTINEL" Bundle.listD A s' s'.heap := by rw [hhp]; exact vx_Zq.moved hW0.alike (hN.kept hS.2.1)
  have h : ∀ w ∈ Bundle.ownAtoms own ic cls names, w.before args s' = true := vx_own hat' (vx_isRefq hU'.1) (vx_isRefq hN'.1) hU'.2.word hN'.2.word
  have hown' : s'.vm.findClass own = some m.cls := by rw [hvm]; exact hown
  have hins : (Cond.instantiable cls 6).before args s' = true := h _ (by simp [Bundle.ownAtoms])
  obtain ⟨vm₁, cX, kX, hfX, hkX, -, -, X₁, st1⟩ := Y.newCold hexec (own := own) (C := cls) (index := ik) (n := 6) hown' hk' hins hini'
    (g := F0 m pc ls rest) rfl (by rw [hb]; exact d0) (Nat.le_refl _) (Nat.le_refl _)
  generalize hT1 : (T.setVm vm₁).pushCell { cls := cX, slots := kX.instanceTypes.map defaultValue, vm := .none } = T1 at X₁ st1
  have hcat : (Value.ref T.heap.size).category = 1 := rfl
  have hcellA : T1.heap[T.heap.size]? = some (freshCell cX kX) := by rw [← hT1]; exact State.heap_pushCell_size _ _
  have d3' : decode c.code (pc + 3) = .ok (.dup, 1) := by rw [hb]; exact d3
  have d4' : decode c.code (pc + 4) = .ok (.ldc_w is, 3) := by rw [hb]; exact d4
  have hstr' : vk_R own is text sa s' := vk_R.warm hW0 hstr
  obtain ⟨U, hsteps, hrun, hend, hW, hsame, ce, hce, hO⟩ := X₁.ctorThrowS hexec htr (own := own) (cls := cls) (names := names) (ic := ic) hown' hcls hnames h (fun x hx => nomatch hx) hfX hkX hcellA (by rw [hhp, hT]; exact Nat.le_refl _) (msg := .ref sa) rfl
    (g := { method := m, pc := pc + 7, locals := ls, stack := .ref sa :: .ref T.heap.size :: .ref T.heap.size :: rest, locked := none }) rfl hsize rfl rfl (rest := rest) rfl
    (by rw [hb]; exact d7) (by rw [hb]; exact d10) hout hRframes (by simp only [List.map_cons, List.sum_cons, hcat]; omega) hlocks
  obtain ⟨f1, f2⟩ := vx_frame hsame
  rw [hhp] at f1 f2
  have hWs : s.WarmedH U.vm := State.WarmedH.trans hW0 hW
  have hcl : s.vm.findClass cls = some ce.cls := by
    have h9 := hO.cls
    rw [hvm] at h9
    exact h9
  have hall : s.sameButNew ({ U with vm := s.vm } : State) locs mc ms := by
    subst hA
    obtain ⟨e1, e2⟩ := hsame
    rw [State.setFrames_setFrames] at e1
    have h2 : (T.setVm s.vm).sameButNew ({ U with vm := s.vm } : State) [] (0 + 1) (0 + 6) := ⟨e1, e2⟩
    have h3 := X.same.trans h2
    rw [List.append_nil] at h3
    exact h3.mono hc hs
  refine ⟨U, ?_, .threw T.heap.size, hrun, hend, Or.inr ⟨T.heap.size, rfl, cls, ce, locs, hx U hWs.alike f1 (fun q hq => f2 q hq (fun z hz => nomatch hz)), hce, hO.vm, hcl, hWs, hall, hf⟩⟩
  refine st1 _ ?_
  show Steps p.tables e below (T1.setTop { method := m, pc := pc + 3, locals := ls, stack := .ref T.heap.size :: rest, locked := none }) _
  jvm_step X₁.here [X₁.here.top, hexec, d3', Value.category]
  exact X₁.ldcStringW hexec (own := own) (text := text) (index := is) (a := sa) hown' hstr'.1 hstr'.2
    (g := { method := m, pc := pc + 4, locals := ls, stack := .ref T.heap.size :: .ref T.heap.size :: rest, locked := none }) rfl d4' _ hsteps
end Ends
section Bodies
variable {l : Launch}
theorem vx_ofW {y : MethodName} {ws ws' : List Cond} {rm : Room} {Pc : Array Value → State → Prop} {Qc : Array Value → State → Outcome → State → Prop} {XC : String → State → State → Prop} {mc ms : Nat} {free : Addr → Prop} {cc : ByteArray} {maxL : Nat} {ret : Option FieldType}
    (hy : plainName y.cls = true) (hw : ws = Cond.code y cc maxL ret :: ws')
    (body : ∀ p e s m args below meth c s₁, BodyLoose p l y (headSpec ws rm) cc maxL ret e s m args below meth c s₁ → c.maxLocals = maxL → (∀ x ∈ c.exceptionTable.toList, False) → Pc args s →
      W p l e (headSpec ws rm).room s m args below meth c s.heap [] 0 0 (vx_MQ below Qc XC args s mc ms free) (entryFrame m args maxL)) : vx_Met l y ws rm Pc Qc XC mc ms free := by
  refine MetFree.of_bodyS (code := cc) (maxLocals := maxL) (ret := ret) hy ?_ ?_
  · intro args s m h hn
    obtain ⟨meth, c, h1, h2, h3, h4, h5, h6, -, -⟩ := Cond.code_spec hn (atoms_spec (ws := ws) h _ (by rw [hw]; exact List.mem_cons_self))
    exact ⟨meth, c, h1, h2, h3, h4, h5, h6⟩
  · intro p e s m args below meth c s₁ B hml hP _
    have hh0 : s₁.heap = s.heap := by rw [B.state]; rfl
    have ht : ∀ x ∈ c.exceptionTable.toList, False := by
      obtain ⟨meth9, c9, h1, h2, -, -, -, -, h7, -⟩ := Cond.code_spec B.named (atoms_spec (ws := ws) B.pre _ (by rw [hw]; exact List.mem_cons_self))
      cases Option.some.inj (h1.symm.trans B.method)
      cases Option.some.inj (h2.symm.trans (Stand.of_body B).code)
      intro x hx
      rw [Array.isEmpty_iff.mp h7] at hx
      cases hx
    obtain ⟨t, a1, o, b1, b2, b3⟩ := body p e s m args below meth c s₁ B hml ht hP s₁ hh0 (Stand.of_body B)
    exact ⟨t, o, a1, b1, b2, b3⟩
/-- the table of a body with handlers -/
theorem vx_table {p : Program} {x y : MethodName} {S : Spec} {cc bytes : ByteArray} {maxL maxL' : Nat} {ret ret' : Option FieldType} {e : Env} {s s₁ : State} {m : MethodId} {args : Array Value} {below : List Frame} {meth : Method} {c : Code} {hh : List (Nat × Nat × Nat × Nat)}
    (B : BodyLoose p l y S cc maxL ret e s m args below meth c s₁) (h : (Cond.codeWith y bytes maxL' ret' hh).before args s = true) : c.exceptionTable.toList = tableOf hh := by
  obtain ⟨m9, meth9, c9, hn9, h1, h2, -, -, h6, -⟩ := Cond.codeWith_spec h
  cases Option.some.inj (hn9.symm.trans B.named)
  cases Option.some.inj (h1.symm.trans B.method)
  cases Option.some.inj (h2.symm.trans (Stand.of_body B).code)
  rw [← h6, table_eq]
end Bodies
end VXA
/-! ===== END ===== -/
/-! ===== BEGIN a static call of a method with an exception table ===== -/
section VXS
variable {p : Program} {l : Launch} {e : Env} {R : Room} {s : State} {m : MethodId} {args : Array Value} {below : List Frame} {meth : Method} {c : Code} {T : State} {H : Heap} {locs : List Loc} {cells slots : Nat}
abbrev vx_CSW (R : Room) (s : State) (args : Array Value) (own : String) (index : Nat) (y : MethodName) (bytes : ByteArray) (maxL : Nat) (ret : Option FieldType) (hh : List (Nat × Nat × Nat × Nat)) (ws : List Cond) (rm : Room) (mc ms n : Nat) : Prop :=
  (rm.cells = mc ∧ rm.slots = ms ∧ rm.frames + 1 ≤ R.frames ∧ 8 + (maxL + 11) + rm.locals ≤ R.locals ∧ (∀ w ∈ ws, ∀ (a' : Array Value) (U : State), s.WarmedH U.vm → w.before a' U = true) ∧ Cond.codeWith y bytes maxL ret hh ∈ ws) ∧
  (Cond.codeWith y bytes maxL ret hh).before args s = true ∧ (Cond.initialized y.cls).before args s = true ∧ (y.cls ≠ "java/lang/invoke/MethodHandle" ∧ y.cls ≠ "java/lang/invoke/VarHandle") ∧
  (∀ sig, parseMethodDescriptor y.desc = some sig → n = sig.parameters.length) ∧ (Cond.methodLink own index y).before args s = true ∧ (Cond.static y).before args s = true
theorem vx_cwSW {own : String} {index maxL mc ms : Nat} {y : MethodName} {bytes : ByteArray} {ret : Option FieldType} {hh : List (Nat × Nat × Nat × Nat)} {Ts ws ws' : List Cond} {rm : Room} (n : Nat) (ht : ∀ w ∈ Ts, w.before args s = true) (hT : GoodIn Ts (va_wsS own index y ws)) (hw : ws = Cond.codeWith y bytes maxL ret hh :: ws') (hrc : rm.cells = mc) (hrs : rm.slots = ms)
    (hd : y.cls ≠ "java/lang/invoke/MethodHandle" ∧ y.cls ≠ "java/lang/invoke/VarHandle" ∧ (parseMethodDescriptor y.desc).map (fun d => d.parameters.length) = some n) (hR : rm.frames + 1 ≤ R.frames ∧ 8 + (maxL + 11) + rm.locals ≤ R.locals) :
    vx_CSW R s args own index y bytes maxL ret hh ws rm mc ms n := by
  have ok : ∀ w ∈ va_wsS own index y ws, w.before args s = true := fun w h => ht w (hT w h).1
  have hG : GoodIn Ts ws := fun w h => hT w (by unfold va_wsS; exact List.mem_append_right _ h)
  have hc : Cond.codeWith y bytes maxL ret hh ∈ ws := by rw [hw]; exact List.mem_cons_self
  refine ⟨⟨hrc, hrs, hR.1, hR.2, pay_in ht hG, hc⟩, ht _ (hG _ hc).1, ok _ (by simp [va_wsS]), ⟨hd.1, hd.2.1⟩, fun sig h => ?_, ok _ (by simp [va_wsS]), ok _ (by simp [va_wsS])⟩
  have h2 := hd.2.2
  rw [h] at h2
  exact (Option.some.inj h2).symm
theorem vx_callSW (X : Stand p l e R s m args below meth c T locs cells slots) (hexec : p.tables.exec = Jvm.exec) {own : String} {index : Nat} {y : MethodName} {bytes : ByteArray} {maxL : Nat} {ret : Option FieldType} {hh : List (Nat × Nat × Nat × Nat)}
    (hown : s.vm.findClass own = some m.cls) (hlink : (Cond.methodLink own index y).before args s = true) (hstat : (Cond.static y).before args s = true) (hinit : (Cond.initialized y.cls).before args s = true)
    (hcode : (Cond.codeWith y bytes maxL ret hh).before args s = true) (hy : y.cls ≠ "java/lang/invoke/MethodHandle" ∧ y.cls ≠ "java/lang/invoke/VarHandle")
    {W9 : Nat} {Pre : Pt → Array Value → Prop} {Post : Pt → Array Value → Option Value → Pt → Prop} (hK : Back l R p e below s args y 3 W9 Pre Post)
    {g : JFrame} (hg : g.method = m) (hsize : g.locals.size = c.maxLocals) {argsL rest : List Value} (hlen : ∀ sig, parseMethodDescriptor y.desc = some sig → argsL.length = sig.parameters.length)
    (hstack : g.stack = argsL.reverse ++ rest) (hW : 2 * g.monitorRoom + (rest.map fun v => v.category).sum ≤ W9) (hdg : decode c.code g.pc = .ok (.invokestatic index, 3))
    (hpre : ∀ vm₁, s.WarmedH vm₁ → Pre ⟨T.setVm vm₁, locs, cells, slots⟩ argsL.toArray) :
    ∃ (v : Option Value) (vm₁ : Vm) (B : Pt), s.WarmedH vm₁ ∧ Stand p l e R s m args below meth c B.U B.locs B.cells B.slots ∧ Post ⟨T.setVm vm₁, locs, cells, slots⟩ argsL.toArray v B ∧
      ∀ target, Steps p.tables e below (B.U.setTop { g with pc := g.pc + 3, stack := v.toList ++ rest }) target → Steps p.tables e below (T.setTop g) target := by
  obtain ⟨mk, methM, cM, hnamed, hmethM, -, -, -, -, -, -, hsigM⟩ := Cond.codeWith_spec hcode
  have hstatic : methM.isStatic = true := Cond.static_spec hnamed hmethM hstat
  obtain ⟨kP, hkP, -⟩ := className_of_methodNamed hnamed
  have hinitP : kP.init = .initialized := Cond.initialized_spec (findClass_of_methodNamed hnamed) hkP hinit
  obtain ⟨vm₁, X₁, hstep₁⟩ := X.invokestatic hexec hown hlink hnamed hmethM hstatic hkP hinitP hy (g := g) hg (argsL := argsL) (rest := rest) (hlen _ hsigM) hstack hdg
  obtain ⟨v, B, X', hpost, hsteps⟩ := hK m meth c ⟨T.setVm vm₁, locs, cells, slots⟩ { g with stack := rest } (.invokestatic index) mk argsL.toArray X₁ hg hsize hdg hW (X₁.named hnamed) (hpre vm₁ X₁.warmed)
  exact ⟨v, vm₁, B, X₁.warmed, X', hpost, fun target h => hstep₁ _ fun acts => by rw [doInvoke_state]; exact hsteps.trans h⟩
theorem vx_runSW {y : MethodName} {bytes cc : ByteArray} {maxL nL mc ms n index : Nat} {ret : Option FieldType} {hh : List (Nat × Nat × Nat × Nat)} {ws : List Cond} {rm : Room} {Pc : Array Value → State → Prop} {Qc : Array Value → State → Outcome → State → Prop} {free : Addr → Prop} {Ts : List Cond} {own : String} {As rest : List Value} {g : JFrame}
    (S : CallFix p m c cc nL s args Ts own) (hM : Met l y ws rm Pc Qc mc ms free) (cw : vx_CSW R s args own index y bytes maxL ret hh ws rm mc ms n) (hp : PreS s H Pc As)
    (hg : g.method = m) (hn : As.length = n) (hsize : g.locals.size = nL) (hstack : g.stack = As.reverse ++ rest) (hW : 2 * g.monitorRoom + (rest.map fun v => v.category).sum ≤ 8) (hdg : decode cc g.pc = .ok (.invokestatic index, 3)) (hf : cells + mc ≤ R.cells ∧ slots + ms ≤ R.slots) :
    va_Run p l e R s m args below meth c H locs cells slots mc ms g rest (Qc As.toArray) (free) := by
  obtain ⟨⟨hrc, hrs, hfr, hlo, hws, hcw⟩, hcode, hini, hy, hlen, hl, hstt⟩ := cw
  have hK : Back l R p e below s args y 3 8 (PreOf R mc ms Pc) (PostOf Qc mc ms free) := va_backW (hh := hh) (bytes := bytes) (maxL := maxL) (ret := ret) hM hp.1 hrc hrs hfr hlo hws hcw (fun a' U hW => word_at hW (Or.inl (by first | rfl | simp [Cond.onTables, Cond.keeps, Cond.steady])) hini)
  obtain ⟨hx, hb, hml, ho, -⟩ := S
  intro T hT X
  obtain ⟨v, vm₁, ⟨U', l2, c2, s2⟩, hW₁, X', ⟨g', mk, t, L, e1, e2, hq, h1, hL, h2, h3⟩, st⟩ := vx_callSW X hx (hh := hh) (bytes := bytes) (maxL := maxL) (ret := ret) ho hl hstt hini hcode hy hK hg (hsize.trans hml.symm) (argsL := As) (rest := rest) (fun sig h => hn.trans (hlen sig h)) hstack hW (by rw [hb]; exact hdg)
    (fun vm₁ hW₁ => ⟨hf.1, hf.2, hp.2 (T.setVm vm₁) hT hW₁⟩)
  dsimp only [Pt.U, Pt.locs, Pt.cells, Pt.slots] at X' e1 e2 h1 h2 h3 st
  subst h1; subst h2; subst h3
  exact ⟨v, (T.setVm vm₁).calling g' mk As.toArray, t, U', L, hT, X', hL, e1, e2, hq, st⟩
/-- not caught here, past rows that name other classes: it goes on to the caller -/
theorem vx_outP {p : Program} {l : Launch} {e : Env} {R : Room} {s : State} {m : MethodId} {args : Array Value} {below : List Frame} {meth : Method} {c : Code} {H : Heap} {locs : List Loc} {cells slots : Nat} {free : Addr → Prop} {ls : Array Slot} {rest : List Value} {Qc : Array Value → State → Outcome → State → Prop} {XC : String → State → State → Prop}
    {pc : Nat} {own E : String} {ce : Cell} {q : Addr} {mc ms : Nat} (hown : s.vm.findClass own = some m.cls) (hlocks : meth.locks = false)
    (hpass : ∀ z ∈ c.exceptionTable.toList, covers z pc = false ∨ (z.catchType ≠ 0 ∧ ∃ nm : String, (Cond.classLink own z.catchType nm).before args s = true ∧ va_Nc E nm s)) (hcell : H[q]? = some ce) (hv : ce.vm = .none) (hcl : s.vm.findClass E = some ce.cls)
    (hx : ∀ t : State, t.heap = H → s.vm.Alike t.vm → XC E s t) (hf : ∀ z ∈ locs, free z.base) (hc : cells ≤ mc) (hs : slots ≤ ms) :
    vx_W p l e R s m args below meth c H locs cells slots (vx_MQ below Qc XC args s mc ms free) (F0 m pc ls rest) q := by
  intro T hT X
  have hpl : e.platform.magicAccessors = ({} : Platform).magicAccessors := by rw [X.admits.platform]
  obtain ⟨vm', hW', X', st⟩ := X.outThrough hlocks q (g := F0 m pc ls rest) rfl rfl rfl (cell := ce) (by rw [hT]; exact hcell) (by rw [hv]; rfl)
    (by obtain ⟨k9, h9, -⟩ := Vm.findClass_spec hcl; exact ⟨k9, h9⟩) (fun z hz => by
      rcases hpass z hz with h | ⟨hz0, nm, hl1, hn1⟩
      · exact Or.inl h
      · obtain ⟨c6, hc6, hcl6⟩ := Cond.classLink_spec hown hl1 e.platform hpl
        obtain ⟨a8, b8, h1, h2, h3⟩ := hn1
        cases Option.some.inj (h1.symm.trans hcl)
        cases Option.some.inj (h2.symm.trans hc6)
        exact Or.inr ⟨hz0, _, hcl6, h3⟩)
  obtain ⟨g₀, hfr⟩ := X'.frames_eq
  have hcell9 : ((T.setVm vm').setFrames (.throwing q :: below)).heap[q]? = some ce := by
    show T.heap[q]? = some ce
    rw [hT]; exact hcell
  have hend : Ended ((T.setVm vm').setFrames (.throwing q :: below)) below (.threw q) := State.frames_setFrames _ (State.cur_lt_of_frames hfr)
  refine ⟨(T.setVm vm').setFrames (.throwing q :: below), ?_, .threw q, X'.here.running, hend, Or.inr ⟨q, rfl, E, ce, locs, hx _ hT (X'.ends _).1.alike, hcell9, hv, hcl, (X'.ends _).1, (X'.ends _).2.mono hc hs, hf⟩⟩
  rw [X.pushThrowing_eq]
  exact st
/-- a thing of a world lies in the heap -/
theorem vx_lt {D : va_G} {cl : List vw_C} {ws : va_W} {H1 : Heap} (h : va_P D cl ws H1) {k : Nat} {q : Nat × va_E} (hk : ws[k]? = some q) : q.1 < H1.size := (h k q hk).lt
end VXS
/-! ===== END ===== -/
/-! ===== BEGIN methods with a table of their own: called by a name, returning or throwing ===== -/
section VXH
/-! vx_backW, vx_callVX, vx_callSX, vx_callVW, vx_runVW, vx_runVX, vx_runSX, vx_ofWH follow the same proofs as their sisters above (Free/Laws.lean, Shelf42/LK1.lean); vx_outP calls Shelf42/NT130.lean (outThrough). -/
section
variable {l : Launch} {R : Room} {p : Program} {e : Env} {below : List Frame} {s : State} {sargs : Array Value} {y : MethodName} {len W9 : Nat}
theorem vx_backW {ws : List Cond} {rm : Room} {Pc : Array Value → State → Prop} {Qc : Array Value → State → Outcome → State → Prop} {XC : String → State → State → Prop} {mc ms : Nat} {free : Addr → Prop} {bytes : ByteArray} {maxL : Nat} {ret : Option FieldType} {hh : List (Nat × Nat × Nat × Nat)}
    (hM : vx_Met l y ws rm Pc Qc XC mc ms free) (hblind : FrameBlind Pc) (hrc : rm.cells = mc) (hrs : rm.slots = ms)
    (hframes : rm.frames + 1 ≤ R.frames) (hlocals : W9 + (maxL + 11) + rm.locals ≤ R.locals)
    (hws : ∀ w ∈ ws, ∀ a' U, s.WarmedH U.vm → w.before a' U = true) (hcode : Cond.codeWith y bytes maxL ret hh ∈ ws) (hinit : ∀ a' U, s.WarmedH U.vm → (Cond.initialized y.cls).before a' U = true) :
    vx_Back l R p e below s sargs y len W9 (PreOf R mc ms Pc) (PostOf Qc mc ms free) (vx_Post XC mc ms free) := by
  intro m meth c A g ig mk a X hg hsize hdg hW hn hp
  have h1 : (headSpec ws rm).pre.before a A.U = true := atoms_intro fun w hw => hws w hw _ _ X.warmed
  have h2 : (Cond.codeWith y bytes maxL ret hh).before a A.U = true := hws _ hcode _ _ X.warmed
  have h3 : (Cond.initialized y.cls).before a A.U = true := hinit _ _ X.warmed
  have h4 : A.cells + (headSpec ws rm).room.cells ≤ R.cells := by rw [show (headSpec ws rm).room.cells = mc from hrc]; exact hp.1
  have h5 : A.slots + (headSpec ws rm).room.slots ≤ R.slots := by rw [show (headSpec ws rm).room.slots = ms from hrs]; exact hp.2.1
  have hPc : Pc a (A.U.calling g mk a) := hblind _ _ _ _ hp.2.2
  obtain ⟨U, Ls, c0, s0⟩ := A
  dsimp only [Pt.U, Pt.locs, Pt.cells, Pt.slots] at h1 h2 h3 h4 h5 X hn hPc ⊢
  obtain ⟨m9, methY, cY, hn9, hmY, hcY, -, hlY, -⟩ := Cond.codeWith_spec h2
  cases Option.some.inj (hn9.symm.trans hn)
  obtain ⟨kY, hkY, -⟩ := className_of_methodNamed hn
  have hinitY : kY.init = .initialized := Cond.initialized_spec (findClass_of_methodNamed hn) hkY h3
  have h : At U g.method c below := by rw [hg]; exact X.here
  have hlocals9 : W9 + (maxL + 11) + (headSpec ws rm).room.locals ≤ R.locals := hlocals
  have happ : (headSpec ws rm).appliesLoose y e.platform (U.calling g mk a) = true :=
    Spec.appliesLoose_calling (g := g) h hdg hn hkY hinitY
      (X.room_calling (g := g) (R' := (headSpec ws rm).room) hsize hmY hcY hframes (by rw [hlY]; omega) h4 h5) h1
  obtain ⟨mid, hmid⟩ := h.above
  have hfr : (U.setTop g).frames = (.java g :: mid) ++ below := by rw [State.frames_setTop' g h.top, hmid]; rfl
  obtain ⟨o, s₂, hsteps, -, hend, hq⟩ := Steps.callFree hM p X.admits X.cas X.clock (acts := []) hfr happ hPc trivial
  have hq' : vx_Q Qc XC mc ms free a (U.calling g mk a) o s₂ := hq
  rw [State.frames_setTop' g h.top] at hend
  obtain ⟨g₀, hg0⟩ := Option.isSome_iff_exists.mp h.top
  obtain ⟨r, hr⟩ := State.topJava?_eq_some.mp hg0
  have hr' : (({ U with heap := s₂.heap, slotsUsed := s₂.slotsUsed } : State).setVm s₂.vm).frames = .java g₀ :: r := hr
  rcases hq' with ⟨hqc, L, hfe, hL⟩ | ⟨q, rfl, E, ce, L, hx, hce, hcv, hcl, hW₂, hsm, hL⟩
  · obtain ⟨⟨v, rfl⟩, hW₂, e2, q2, q3, q4, q5, q6⟩ := id hfe
    have e3 : s₂ = ({ (U.calling g mk a).setFrames s₂.frames with heap := s₂.heap, slotsUsed := s₂.slotsUsed } : State).setVm s₂.vm := by
      have : s₂ = ({ s₂ with vm := (U.calling g mk a).vm } : State).setVm s₂.vm := rfl
      rw [e2] at this
      exact this
    obtain ⟨c₂, i₂, len₂, hc₂, hd₂, hf₂⟩ := hend
    have hW' : U.WarmedH s₂.vm := hW₂
    have hcc : c₂ = c := by
      have h1 : s₂.code? g.method = U.code? g.method := by
        rw [State.code?_eq, State.code?_eq, hW'.alike.method?]
      exact Option.some.inj (hc₂.symm.trans (h1.trans h.code))
    subst hcc
    have hlen : len₂ = len := by rw [hdg] at hd₂; cases hd₂; rfl
    subst hlen
    have hs₂ : s₂ = (({ U with heap := s₂.heap, slotsUsed := s₂.slotsUsed } : State).setVm s₂.vm).setTop { g with pc := g.pc + len₂, stack := v.toList ++ g.stack } := by
      refine e3.trans ?_
      rw [hf₂, State.calling_eq h.top, State.setFrames_setFrames, State.setTop_of_frames _ hr', hr]
      rfl
    have hsame : U.sameButNew ({ U with heap := s₂.heap, slotsUsed := s₂.slotsUsed } : State) L mc ms := by
      refine ⟨?_, q2, q3, q4, q5, q6⟩
      obtain ⟨t, ht, -⟩ := State.frames_cons hr
      show ({ U with heap := s₂.heap, slotsUsed := s₂.slotsUsed } : State) = { U.setFrames U.frames with heap := s₂.heap, slotsUsed := s₂.slotsUsed }
      rw [State.setFrames_self ht]
    subst hg
    refine Or.inl ⟨v, ⟨(({ U with heap := s₂.heap, slotsUsed := s₂.slotsUsed } : State).setVm s₂.vm), Ls ++ L, c0 + mc, s0 + ms⟩,
      ⟨X.admits, X.cas, X.clock, X.frames, X.room, X.hears, X.method, X.code, (X.here.setHeapUsed s₂.heap s₂.slotsUsed).setVm hW'.alike, X.tail, State.WarmedH.trans X.warmed hW', X.limits, X.bytes, X.same.trans (hsame.setVm s.vm)⟩,
      ⟨g, mk, s₂, L, rfl, rfl, hqc, rfl, hL, rfl, rfl⟩, ?_⟩
    show Steps p.tables e below _ ((({ U with heap := s₂.heap, slotsUsed := s₂.slotsUsed } : State).setVm s₂.vm).setTop { g with pc := g.pc + len₂, stack := v.toList ++ g.stack })
    rw [← hs₂]
    exact hsteps
  · obtain ⟨e2, q2, q3, q4, q5, q6⟩ := id hsm
    have e3 : s₂ = ({ (U.calling g mk a).setFrames s₂.frames with heap := s₂.heap, slotsUsed := s₂.slotsUsed } : State).setVm s₂.vm := by
      have : s₂ = ({ s₂ with vm := (U.calling g mk a).vm } : State).setVm s₂.vm := rfl
      rw [e2] at this
      exact this
    have hf₂ : s₂.frames = .throwing q :: .java g :: U.frames.tail := hend
    have hW' : U.WarmedH s₂.vm := hW₂
    have hs₂ : s₂ = ((({ U with heap := s₂.heap, slotsUsed := s₂.slotsUsed } : State).setVm s₂.vm).setTop g).pushFrame (.throwing q) := by
      refine e3.trans ?_
      rw [hf₂, State.calling_eq h.top, State.setFrames_setFrames, State.pushFrame, State.frames_setTop _ hr', State.setTop_of_frames _ hr', State.setFrames_setFrames, hr]
      rfl
    have hsame : U.sameButNew ({ U with heap := s₂.heap, slotsUsed := s₂.slotsUsed } : State) L mc ms := by
      refine ⟨?_, q2, q3, q4, q5, q6⟩
      obtain ⟨t, ht, -⟩ := State.frames_cons hr
      show ({ U with heap := s₂.heap, slotsUsed := s₂.slotsUsed } : State) = { U.setFrames U.frames with heap := s₂.heap, slotsUsed := s₂.slotsUsed }
      rw [State.setFrames_self ht]
    subst hg
    refine Or.inr ⟨q, ⟨(({ U with heap := s₂.heap, slotsUsed := s₂.slotsUsed } : State).setVm s₂.vm), Ls ++ L, c0 + mc, s0 + ms⟩,
      ⟨X.admits, X.cas, X.clock, X.frames, X.room, X.hears, X.method, X.code, (X.here.setHeapUsed s₂.heap s₂.slotsUsed).setVm hW'.alike, X.tail, State.WarmedH.trans X.warmed hW', X.limits, X.bytes, X.same.trans (hsame.setVm s.vm)⟩,
      ⟨g, mk, s₂, L, E, ce, rfl, rfl, hx, hce, hcv, hcl, rfl, hL, rfl, rfl⟩, ?_⟩
    show Steps p.tables e below _ (((({ U with heap := s₂.heap, slotsUsed := s₂.slotsUsed } : State).setVm s₂.vm).setTop g).pushFrame (.throwing q))
    rw [← hs₂]
    exact hsteps
end
variable {p : Program} {l : Launch} {e : Env} {R : Room} {s : State} {m : MethodId} {args : Array Value} {below : List Frame} {meth : Method} {c : Code} {T : State} {H : Heap} {locs : List Loc} {cells slots : Nat}
theorem vx_callVX (X : Stand p l e R s m args below meth c T locs cells slots) (hexec : p.tables.exec = Jvm.exec) {own C : String} {index : Nat} {y : MethodName} {bytes : ByteArray} {maxL : Nat} {ret : Option FieldType} {hh : List (Nat × Nat × Nat × Nat)}
    (hown : s.vm.findClass own = some m.cls) (hlink : (Cond.methodLink own index y).before args s = true) (hinst : (Cond.instanceMethod y).before args s = true) (hsel : (Cond.selects C y y).before args s = true)
    (hcode : (Cond.codeWith y bytes maxL ret hh).before args s = true) (hy : y.cls ≠ "java/lang/invoke/MethodHandle" ∧ y.cls ≠ "java/lang/invoke/VarHandle")
    {W9 : Nat} {Pre : Pt → Array Value → Prop} {Post : Pt → Array Value → Option Value → Pt → Prop} {PostX : Pt → Array Value → Addr → Pt → Prop} (hK : vx_Back l R p e below s args y 3 W9 Pre Post PostX)
    {b : Addr} {cellB : Cell} (hcell : T.heap[b]? = some cellB) (hobj : cellB.vm.isStatics = false) (hcls : s.vm.findClass C = some cellB.cls)
    {g : JFrame} (hg : g.method = m) (hsize : g.locals.size = c.maxLocals) {argsL rest : List Value} (hlen : ∀ sig, parseMethodDescriptor y.desc = some sig → argsL.length = sig.parameters.length)
    (hstack : g.stack = argsL.reverse ++ .ref b :: rest) (hW : 2 * g.monitorRoom + (rest.map fun v => v.category).sum ≤ W9) (hdg : decode c.code g.pc = .ok (.invokevirtual index, 3))
    (hpre : ∀ vm₁, s.WarmedH vm₁ → Pre ⟨T.setVm vm₁, locs, cells, slots⟩ (Value.ref b :: argsL).toArray) :
    (∃ (v : Option Value) (vm₁ : Vm) (B : Pt), s.WarmedH vm₁ ∧ Stand p l e R s m args below meth c B.U B.locs B.cells B.slots ∧ Post ⟨T.setVm vm₁, locs, cells, slots⟩ (Value.ref b :: argsL).toArray v B ∧
      ∀ target, Steps p.tables e below (B.U.setTop { g with pc := g.pc + 3, stack := v.toList ++ rest }) target → Steps p.tables e below (T.setTop g) target) ∨
    (∃ (q : Addr) (vm₁ : Vm) (B : Pt), s.WarmedH vm₁ ∧ Stand p l e R s m args below meth c B.U B.locs B.cells B.slots ∧ PostX ⟨T.setVm vm₁, locs, cells, slots⟩ (Value.ref b :: argsL).toArray q B ∧
      Steps p.tables e below (T.setTop g) ((B.U.setTop { g with stack := rest }).pushFrame (.throwing q))) := by
  obtain ⟨mk, methM, hnamed, hmethM, hstM, habM⟩ := Cond.instanceMethod_spec hinst
  obtain ⟨m8, methM', cM, hn8, hmethM', -, -, -, -, -, -, hsigM⟩ := Cond.codeWith_spec hcode
  cases Option.some.inj (hn8.symm.trans hnamed)
  cases hmethM.symm.trans hmethM'
  obtain ⟨c2, r2, m2, q1, q2, q3, q4, kP, hkP, hkPi⟩ := Cond.selects_spec hsel
  cases hcls.symm.trans q1
  cases (State.methodFound?_of_named hnamed hy).symm.trans q2
  cases hnamed.symm.trans q3
  have hselP : selectMethod e.platform s.vm cellB.cls mk = .method mk := by rw [Launch.admits_selectMethod X.admits]; exact q4
  obtain ⟨vm₁, X₁, hstep₁⟩ := X.invokevirtual hexec hown hlink hnamed hmethM hstM hkP hkPi hy (a := b) (cell := cellB) hcell
    (fun z h => by rw [h] at hobj; cases hobj) hselP hmethM habM hkP hkPi (g := g) hg (argsL := argsL) (rest := rest) (hlen _ hsigM) hstack hdg
  rcases hK m meth c ⟨T.setVm vm₁, locs, cells, slots⟩ { g with stack := rest } (.invokevirtual index) mk (Value.ref b :: argsL).toArray X₁ hg hsize hdg hW (X₁.named hnamed) (hpre vm₁ X₁.warmed) with ⟨v, B, X', hpost, hsteps⟩ | ⟨q, B, X', hpost, hsteps⟩
  · exact Or.inl ⟨v, vm₁, B, X₁.warmed, X', hpost, fun target h => hstep₁ _ fun acts => by rw [doInvoke_state]; exact hsteps.trans h⟩
  · exact Or.inr ⟨q, vm₁, B, X₁.warmed, X', hpost, hstep₁ _ fun acts => by rw [doInvoke_state]; exact hsteps⟩
theorem vx_callSX (X : Stand p l e R s m args below meth c T locs cells slots) (hexec : p.tables.exec = Jvm.exec) {own : String} {index : Nat} {y : MethodName} {bytes : ByteArray} {maxL : Nat} {ret : Option FieldType} {hh : List (Nat × Nat × Nat × Nat)}
    (hown : s.vm.findClass own = some m.cls) (hlink : (Cond.methodLink own index y).before args s = true) (hstat : (Cond.static y).before args s = true) (hinit : (Cond.initialized y.cls).before args s = true)
    (hcode : (Cond.codeWith y bytes maxL ret hh).before args s = true) (hy : y.cls ≠ "java/lang/invoke/MethodHandle" ∧ y.cls ≠ "java/lang/invoke/VarHandle")
    {W9 : Nat} {Pre : Pt → Array Value → Prop} {Post : Pt → Array Value → Option Value → Pt → Prop} {PostX : Pt → Array Value → Addr → Pt → Prop} (hK : vx_Back l R p e below s args y 3 W9 Pre Post PostX)
    {g : JFrame} (hg : g.method = m) (hsize : g.locals.size = c.maxLocals) {argsL rest : List Value} (hlen : ∀ sig, parseMethodDescriptor y.desc = some sig → argsL.length = sig.parameters.length)
    (hstack : g.stack = argsL.reverse ++ rest) (hW : 2 * g.monitorRoom + (rest.map fun v => v.category).sum ≤ W9) (hdg : decode c.code g.pc = .ok (.invokestatic index, 3))
    (hpre : ∀ vm₁, s.WarmedH vm₁ → Pre ⟨T.setVm vm₁, locs, cells, slots⟩ argsL.toArray) :
    (∃ (v : Option Value) (vm₁ : Vm) (B : Pt), s.WarmedH vm₁ ∧ Stand p l e R s m args below meth c B.U B.locs B.cells B.slots ∧ Post ⟨T.setVm vm₁, locs, cells, slots⟩ argsL.toArray v B ∧
      ∀ target, Steps p.tables e below (B.U.setTop { g with pc := g.pc + 3, stack := v.toList ++ rest }) target → Steps p.tables e below (T.setTop g) target) ∨
    (∃ (q : Addr) (vm₁ : Vm) (B : Pt), s.WarmedH vm₁ ∧ Stand p l e R s m args below meth c B.U B.locs B.cells B.slots ∧ PostX ⟨T.setVm vm₁, locs, cells, slots⟩ argsL.toArray q B ∧
      Steps p.tables e below (T.setTop g) ((B.U.setTop { g with stack := rest }).pushFrame (.throwing q))) := by
  obtain ⟨mk, methM, cM, hnamed, hmethM, -, -, -, -, -, -, hsigM⟩ := Cond.codeWith_spec hcode
  have hstatic : methM.isStatic = true := Cond.static_spec hnamed hmethM hstat
  obtain ⟨kP, hkP, -⟩ := className_of_methodNamed hnamed
  have hinitP : kP.init = .initialized := Cond.initialized_spec (findClass_of_methodNamed hnamed) hkP hinit
  obtain ⟨vm₁, X₁, hstep₁⟩ := X.invokestatic hexec hown hlink hnamed hmethM hstatic hkP hinitP hy (g := g) hg (argsL := argsL) (rest := rest) (hlen _ hsigM) hstack hdg
  rcases hK m meth c ⟨T.setVm vm₁, locs, cells, slots⟩ { g with stack := rest } (.invokestatic index) mk argsL.toArray X₁ hg hsize hdg hW (X₁.named hnamed) (hpre vm₁ X₁.warmed) with ⟨v, B, X', hpost, hsteps⟩ | ⟨q, B, X', hpost, hsteps⟩
  · exact Or.inl ⟨v, vm₁, B, X₁.warmed, X', hpost, fun target h => hstep₁ _ fun acts => by rw [doInvoke_state]; exact hsteps.trans h⟩
  · exact Or.inr ⟨q, vm₁, B, X₁.warmed, X', hpost, hstep₁ _ fun acts => by rw [doInvoke_state]; exact hsteps⟩
theorem vx_callVW (X : Stand p l e R s m args below meth c T locs cells slots) (hexec : p.tables.exec = Jvm.exec) {own C : String} {index : Nat} {y : MethodName} {bytes : ByteArray} {maxL : Nat} {ret : Option FieldType} {hh : List (Nat × Nat × Nat × Nat)}
    (hown : s.vm.findClass own = some m.cls) (hlink : (Cond.methodLink own index y).before args s = true) (hinst : (Cond.instanceMethod y).before args s = true) (hsel : (Cond.selects C y y).before args s = true)
    (hcode : (Cond.codeWith y bytes maxL ret hh).before args s = true) (hy : y.cls ≠ "java/lang/invoke/MethodHandle" ∧ y.cls ≠ "java/lang/invoke/VarHandle")
    {W9 : Nat} {Pre : Pt → Array Value → Prop} {Post : Pt → Array Value → Option Value → Pt → Prop} (hK : Back l R p e below s args y 3 W9 Pre Post)
    {b : Addr} {cellB : Cell} (hcell : T.heap[b]? = some cellB) (hobj : cellB.vm.isStatics = false) (hcls : s.vm.findClass C = some cellB.cls)
    {g : JFrame} (hg : g.method = m) (hsize : g.locals.size = c.maxLocals) {argsL rest : List Value} (hlen : ∀ sig, parseMethodDescriptor y.desc = some sig → argsL.length = sig.parameters.length)
    (hstack : g.stack = argsL.reverse ++ .ref b :: rest) (hW : 2 * g.monitorRoom + (rest.map fun v => v.category).sum ≤ W9) (hdg : decode c.code g.pc = .ok (.invokevirtual index, 3))
    (hpre : ∀ vm₁, s.WarmedH vm₁ → Pre ⟨T.setVm vm₁, locs, cells, slots⟩ (Value.ref b :: argsL).toArray) :
    ∃ (v : Option Value) (vm₁ : Vm) (B : Pt), s.WarmedH vm₁ ∧ Stand p l e R s m args below meth c B.U B.locs B.cells B.slots ∧ Post ⟨T.setVm vm₁, locs, cells, slots⟩ (Value.ref b :: argsL).toArray v B ∧
      ∀ target, Steps p.tables e below (B.U.setTop { g with pc := g.pc + 3, stack := v.toList ++ rest }) target → Steps p.tables e below (T.setTop g) target := by
  obtain ⟨mk, methM, hnamed, hmethM, hstM, habM⟩ := Cond.instanceMethod_spec hinst
  obtain ⟨m8, methM', cM, hn8, hmethM', -, -, -, -, -, -, hsigM⟩ := Cond.codeWith_spec hcode
  cases Option.some.inj (hn8.symm.trans hnamed)
  cases hmethM.symm.trans hmethM'
  obtain ⟨c2, r2, m2, q1, q2, q3, q4, kP, hkP, hkPi⟩ := Cond.selects_spec hsel
  cases hcls.symm.trans q1
  cases (State.methodFound?_of_named hnamed hy).symm.trans q2
  cases hnamed.symm.trans q3
  have hselP : selectMethod e.platform s.vm cellB.cls mk = .method mk := by rw [Launch.admits_selectMethod X.admits]; exact q4
  obtain ⟨vm₁, X₁, hstep₁⟩ := X.invokevirtual hexec hown hlink hnamed hmethM hstM hkP hkPi hy (a := b) (cell := cellB) hcell
    (fun z h => by rw [h] at hobj; cases hobj) hselP hmethM habM hkP hkPi (g := g) hg (argsL := argsL) (rest := rest) (hlen _ hsigM) hstack hdg
  obtain ⟨v, B, X', hpost, hsteps⟩ := hK m meth c ⟨T.setVm vm₁, locs, cells, slots⟩ { g with stack := rest } (.invokevirtual index) mk (Value.ref b :: argsL).toArray X₁ hg hsize hdg hW (X₁.named hnamed) (hpre vm₁ X₁.warmed)
  exact ⟨v, vm₁, B, X₁.warmed, X', hpost, fun target h => hstep₁ _ fun acts => by rw [doInvoke_state]; exact hsteps.trans h⟩
abbrev vx_CVW (R : Room) (s : State) (args : Array Value) (own C : String) (index : Nat) (y : MethodName) (bytes : ByteArray) (maxL : Nat) (ret : Option FieldType) (hh : List (Nat × Nat × Nat × Nat)) (ws : List Cond) (rm : Room) (mc ms n : Nat) : Prop :=
  (rm.cells = mc ∧ rm.slots = ms ∧ rm.frames + 1 ≤ R.frames ∧ 8 + (maxL + 11) + rm.locals ≤ R.locals ∧ (∀ w ∈ ws, ∀ (a' : Array Value) (U : State), s.WarmedH U.vm → w.before a' U = true) ∧ Cond.codeWith y bytes maxL ret hh ∈ ws) ∧
  (Cond.codeWith y bytes maxL ret hh).before args s = true ∧ (Cond.initialized y.cls).before args s = true ∧ (y.cls ≠ "java/lang/invoke/MethodHandle" ∧ y.cls ≠ "java/lang/invoke/VarHandle") ∧
  (∀ sig, parseMethodDescriptor y.desc = some sig → n = sig.parameters.length) ∧ (Cond.methodLink own index y).before args s = true ∧ (Cond.instanceMethod y).before args s = true ∧ (Cond.selects C y y).before args s = true
theorem vx_cwVW {own C : String} {index maxL mc ms : Nat} {y : MethodName} {bytes : ByteArray} {ret : Option FieldType} {hh : List (Nat × Nat × Nat × Nat)} {Ts ws ws' : List Cond} {rm : Room} (n : Nat) (ht : ∀ w ∈ Ts, w.before args s = true) (hT : GoodIn Ts (wsV own index C y ws)) (hw : ws = Cond.codeWith y bytes maxL ret hh :: ws') (hrc : rm.cells = mc) (hrs : rm.slots = ms)
    (hd : y.cls = C ∧ y.cls ≠ "java/lang/invoke/MethodHandle" ∧ y.cls ≠ "java/lang/invoke/VarHandle" ∧ (parseMethodDescriptor y.desc).map (fun d => d.parameters.length) = some n) (hR : rm.frames + 1 ≤ R.frames ∧ 8 + (maxL + 11) + rm.locals ≤ R.locals) :
    vx_CVW R s args own C index y bytes maxL ret hh ws rm mc ms n := by
  obtain ⟨hC, hd⟩ := hd
  subst hC
  have ok : ∀ w ∈ wsV own index y.cls y ws, w.before args s = true := fun w h => ht w (hT w h).1
  have hG : GoodIn Ts ws := fun w h => hT w (by unfold wsV; exact List.mem_append_right _ h)
  have hc : Cond.codeWith y bytes maxL ret hh ∈ ws := by rw [hw]; exact List.mem_cons_self
  refine ⟨⟨hrc, hrs, hR.1, hR.2, pay_in ht hG, hc⟩, ht _ (hG _ hc).1, ok _ (by simp [wsV]), ⟨hd.1, hd.2.1⟩, fun sig h => ?_, ok _ (by simp [wsV]), ok _ (by simp [wsV]), ok _ (by simp [wsV])⟩
  have h2 := hd.2.2
  rw [h] at h2
  exact (Option.some.inj h2).symm
theorem vx_runVW {y : MethodName} {bytes cc : ByteArray} {maxL nL mc ms n index : Nat} {ret : Option FieldType} {hh : List (Nat × Nat × Nat × Nat)} {ws : List Cond} {rm : Room} {Pc : Array Value → State → Prop} {Qc : Array Value → State → Outcome → State → Prop} {free : Addr → Prop} {Ts : List Cond} {own C : String} {b : Addr} {As rest : List Value} {g : JFrame}
    (S : CallFix p m c cc nL s args Ts own) (hM : Met l y ws rm Pc Qc mc ms free) (cw : vx_CVW R s args own C index y bytes maxL ret hh ws rm mc ms n) (hp : PreV s H C b Pc As)
    (hg : g.method = m) (hn : As.length = n) (hsize : g.locals.size = nL) (hstack : g.stack = As.reverse ++ .ref b :: rest) (hW : 2 * g.monitorRoom + (rest.map fun v => v.category).sum ≤ 8) (hdg : decode cc g.pc = .ok (.invokevirtual index, 3)) (hf : cells + mc ≤ R.cells ∧ slots + ms ≤ R.slots) :
    va_Run p l e R s m args below meth c H locs cells slots mc ms g rest (Qc (Value.ref b :: As).toArray) free := by
  obtain ⟨⟨hrc, hrs, hfr, hlo, hws, hcw⟩, hcode, hini, hy, hlen, hl, hin, hse⟩ := cw
  have hK : Back l R p e below s args y 3 8 (PreOf R mc ms Pc) (PostOf Qc mc ms free) := va_backW (hh := hh) (bytes := bytes) (maxL := maxL) (ret := ret) hM hp.1 hrc hrs hfr hlo hws hcw (fun a' U hW => word_at hW (Or.inl (by first | rfl | simp [Cond.onTables, Cond.keeps, Cond.steady])) hini)
  obtain ⟨hx, hb, hml, ho, -⟩ := S
  obtain ⟨-, ⟨cellB, hcB, hoB, hclB⟩, hPc⟩ := hp
  intro T hT X
  obtain ⟨v, vm₁, ⟨U', l2, c2, s2⟩, hW₁, X', ⟨g', mk, t, L, e1, e2, hq, h1, hL, h2, h3⟩, st⟩ := vx_callVW X hx (C := C) (hh := hh) (bytes := bytes) (maxL := maxL) (ret := ret) ho hl hin hse hcode hy hK (by rw [hT]; exact hcB) hoB hclB hg (hsize.trans hml.symm) (argsL := As) (rest := rest) (fun sig h => hn.trans (hlen sig h)) hstack hW (by rw [hb]; exact hdg)
    (fun vm₁ hW₁ => ⟨hf.1, hf.2, hPc (T.setVm vm₁) hT hW₁⟩)
  dsimp only [Pt.U, Pt.locs, Pt.cells, Pt.slots] at X' e1 e2 h1 h2 h3 st
  subst h1; subst h2; subst h3
  exact ⟨v, (T.setVm vm₁).calling g' mk (Value.ref b :: As).toArray, t, U', L, hT, X', hL, e1, e2, hq, st⟩
section
variable {y : MethodName} {bytes cc : ByteArray} {maxL nL mc ms n index : Nat} {ret : Option FieldType} {ws : List Cond} {rm : Room} {Pc : Array Value → State → Prop} {Qc : Array Value → State → Outcome → State → Prop} {XC : String → State → State → Prop} {free : Addr → Prop} {Ts : List Cond} {own C : String} {b : Addr} {As rest : List Value} {g : JFrame}
theorem vx_runVX {hh : List (Nat × Nat × Nat × Nat)} (S : CallFix p m c cc nL s args Ts own) (hM : vx_Met l y ws rm Pc Qc XC mc ms free) (cw : vx_CVW R s args own C index y bytes maxL ret hh ws rm mc ms n) (hp : PreV s H C b Pc As)
    (hg : g.method = m) (hn : As.length = n) (hsize : g.locals.size = nL) (hstack : g.stack = As.reverse ++ .ref b :: rest) (hW : 2 * g.monitorRoom + (rest.map fun v => v.category).sum ≤ 8) (hdg : decode cc g.pc = .ok (.invokevirtual index, 3)) (hf : cells + mc ≤ R.cells ∧ slots + ms ≤ R.slots) :
    vx_Run p l e R s m args below meth c H locs cells slots mc ms g rest (Qc (Value.ref b :: As).toArray) XC free := by
  obtain ⟨⟨hrc, hrs, hfr, hlo, hws, hcw⟩, hcode, hini, hy, hlen, hl, hin, hse⟩ := cw
  have hK : vx_Back l R p e below s args y 3 8 (PreOf R mc ms Pc) (PostOf Qc mc ms free) (vx_Post XC mc ms free) := vx_backW (hh := hh) (bytes := bytes) (maxL := maxL) (ret := ret) hM hp.1 hrc hrs hfr hlo hws hcw (fun a' U hW => word_at hW (Or.inl (by first | rfl | simp [Cond.onTables, Cond.keeps, Cond.steady])) hini)
  obtain ⟨hx, hb, hml, ho, -⟩ := S
  obtain ⟨-, ⟨cellB, hcB, hoB, hclB⟩, hPc⟩ := hp
  intro T hT X
  rcases vx_callVX X hx (C := C) (hh := hh) (bytes := bytes) (maxL := maxL) (ret := ret) ho hl hin hse hcode hy hK (by rw [hT]; exact hcB) hoB hclB hg (hsize.trans hml.symm) (argsL := As) (rest := rest) (fun sig h => hn.trans (hlen sig h)) hstack hW (by rw [hb]; exact hdg)
    (fun vm₁ hW₁ => ⟨hf.1, hf.2, hPc (T.setVm vm₁) hT hW₁⟩) with ⟨v, vm₁, ⟨U', l2, c2, s2⟩, hW₁, X', ⟨g', mk, t, L, e1, e2, hq, h1, hL, h2, h3⟩, st⟩ | ⟨q, vm₁, ⟨U', l2, c2, s2⟩, hW₁, X', ⟨g', mk, t, L, E, ce, e1, e2, hq, hce, hcv, hcl, h1, hL, h2, h3⟩, st⟩
  · dsimp only [Pt.U, Pt.locs, Pt.cells, Pt.slots] at X' e1 e2 h1 h2 h3 st
    subst h1; subst h2; subst h3
    exact Or.inl ⟨v, (T.setVm vm₁).calling g' mk (Value.ref b :: As).toArray, t, U', L, hT, X', hL, e1, e2, hq, st⟩
  · dsimp only [Pt.U, Pt.locs, Pt.cells, Pt.slots] at X' e1 e2 h1 h2 h3 st hcl
    subst h1; subst h2; subst h3
    exact Or.inr ⟨q, (T.setVm vm₁).calling g' mk (Value.ref b :: As).toArray, t, U', L, E, ce, hT, X', hL, e1, e2, hq, hce, hcv, vx_cls hW₁ hcl, st⟩
theorem vx_runSX {hh : List (Nat × Nat × Nat × Nat)} (S : CallFix p m c cc nL s args Ts own) (hM : vx_Met l y ws rm Pc Qc XC mc ms free) (cw : vx_CSW R s args own index y bytes maxL ret hh ws rm mc ms n) (hp : PreS s H Pc As)
    (hg : g.method = m) (hn : As.length = n) (hsize : g.locals.size = nL) (hstack : g.stack = As.reverse ++ rest) (hW : 2 * g.monitorRoom + (rest.map fun v => v.category).sum ≤ 8) (hdg : decode cc g.pc = .ok (.invokestatic index, 3)) (hf : cells + mc ≤ R.cells ∧ slots + ms ≤ R.slots) :
    vx_Run p l e R s m args below meth c H locs cells slots mc ms g rest (Qc As.toArray) XC free := by
  obtain ⟨⟨hrc, hrs, hfr, hlo, hws, hcw⟩, hcode, hini, hy, hlen, hl, hstt⟩ := cw
  have hK : vx_Back l R p e below s args y 3 8 (PreOf R mc ms Pc) (PostOf Qc mc ms free) (vx_Post XC mc ms free) := vx_backW (hh := hh) (bytes := bytes) (maxL := maxL) (ret := ret) hM hp.1 hrc hrs hfr hlo hws hcw (fun a' U hW => word_at hW (Or.inl (by first | rfl | simp [Cond.onTables, Cond.keeps, Cond.steady])) hini)
  obtain ⟨hx, hb, hml, ho, -⟩ := S
  intro T hT X
  rcases vx_callSX X hx (hh := hh) (bytes := bytes) (maxL := maxL) (ret := ret) ho hl hstt hini hcode hy hK hg (hsize.trans hml.symm) (argsL := As) (rest := rest) (fun sig h => hn.trans (hlen sig h)) hstack hW (by rw [hb]; exact hdg)
    (fun vm₁ hW₁ => ⟨hf.1, hf.2, hp.2 (T.setVm vm₁) hT hW₁⟩) with ⟨v, vm₁, ⟨U', l2, c2, s2⟩, hW₁, X', ⟨g', mk, t, L, e1, e2, hq, h1, hL, h2, h3⟩, st⟩ | ⟨q, vm₁, ⟨U', l2, c2, s2⟩, hW₁, X', ⟨g', mk, t, L, E, ce, e1, e2, hq, hce, hcv, hcl, h1, hL, h2, h3⟩, st⟩
  · dsimp only [Pt.U, Pt.locs, Pt.cells, Pt.slots] at X' e1 e2 h1 h2 h3 st
    subst h1; subst h2; subst h3
    exact Or.inl ⟨v, (T.setVm vm₁).calling g' mk As.toArray, t, U', L, hT, X', hL, e1, e2, hq, st⟩
  · dsimp only [Pt.U, Pt.locs, Pt.cells, Pt.slots] at X' e1 e2 h1 h2 h3 st hcl
    subst h1; subst h2; subst h3
    exact Or.inr ⟨q, (T.setVm vm₁).calling g' mk As.toArray, t, U', L, E, ce, hT, X', hL, e1, e2, hq, hce, hcv, vx_cls hW₁ hcl, st⟩
end
end VXH
theorem vx_ofWH {l : Launch} {y : MethodName} {ws ws' : List Cond} {rm : Room} {Pc : Array Value → State → Prop} {Qc : Array Value → State → Outcome → State → Prop} {XC : String → State → State → Prop} {mc ms : Nat} {free : Addr → Prop} {cc : ByteArray} {maxL : Nat} {ret : Option FieldType} {hh : List (Nat × Nat × Nat × Nat)}
    (hy : plainName y.cls = true) (hw : ws = Cond.codeWith y cc maxL ret hh :: ws')
    (body : ∀ p e s m args below meth c s₁, BodyLoose p l y (headSpec ws rm) cc maxL ret e s m args below meth c s₁ → c.maxLocals = maxL → Pc args s →
      W p l e (headSpec ws rm).room s m args below meth c s.heap [] 0 0 (vx_MQ below Qc XC args s mc ms free) (entryFrame m args maxL)) : vx_Met l y ws rm Pc Qc XC mc ms free := by
  refine MetFree.of_bodyS (code := cc) (maxLocals := maxL) (ret := ret) hy ?_ ?_
  · intro args s m h hn
    obtain ⟨m9, meth, c, hn9, h1, h2, h3, h4, -, h5, h6, -⟩ := Cond.codeWith_spec (atoms_spec (ws := ws) h _ (by rw [hw]; exact List.mem_cons_self))
    cases hn.symm.trans hn9
    exact ⟨meth, c, h1, h2, h3, h4, h5, h6⟩
  · intro p e s m args below meth c s₁ B hml hP _
    have hh0 : s₁.heap = s.heap := by rw [B.state]; rfl
    obtain ⟨t, a1, o, b1, b2, b3⟩ := body p e s m args below meth c s₁ B hml hP s₁ hh0 (Stand.of_body B)
    exact ⟨t, o, a1, b1, b2, b3⟩
/-! ===== END ===== -/

/-! ===== BEGIN what the machine throws by itself, no traces kept ===== -/
section VXM
set_option maxHeartbeats 1000000 in
/-- the machine throws cls with the message text, no traces kept: from its note over the frame g to 'throwing' over the same frame (follows the proofs of Stand.vmThrowsMessage, Shelf/KitTracedVmS.lean, and Stand.throwsMessageColdBareV, StandMessageColdV.lean, without the step out of the frame) -/
theorem vx_vmAt {p : Program} {l : Launch} {e : Env} {R : Room} {s : State} {m₀ : MethodId} {args : Array Value} {below : List Frame} {meth : Method} {c : Code} {W : State} {locs : List Loc} {cells slots : Nat}
    (X : Stand p l e R s m₀ args below meth c W locs cells slots) (hexec : p.tables.exec = Jvm.exec) (htr : e.platform.stackTraces = false) {cls : String} {names : List String} {text : String}
    (hcls : Bundle.fit cls = true) (hnames : ∀ n ∈ names, Bundle.fit n = true) (hsoe : (cls == "java/lang/StackOverflowError") = false) (hoom : (cls == "java/lang/OutOfMemoryError") = false)
    (h : ∀ a ∈ Bundle.messageArmAtoms cls names, a.before args s = true)
    (hlocs : ∀ x ∈ locs, ∀ cell, s.heap[x.base]? = some cell → cell.vm.isStatics = false)
    (htext : (text == notModelled) = false) (hlimit : ¬ (stringBytes (stringToUtf16 text)).size > e.platform.arrayLengthLimit) (hheap : ¬ (stringBytes (stringToUtf16 text)).size * componentBytes .byte > e.platform.maxHeapBytes)
    {g : JFrame} (hg : g.method = m₀) (hsize : g.locals.size = c.maxLocals)
    (hRframes : names.length + 4 < R.frames) (hRlocals : 2 * g.monitorRoom + (g.stack.map fun v => v.category).sum + 10240 ≤ R.locals) (hshort : 13 * names.length + 55 ≤ 10240)
    (hRcells : cells + 3 ≤ R.cells) (hRslots : slots + ((stringBytes (stringToUtf16 text)).size + 4 + 6) ≤ R.slots) (hlocks : meth.locks = false) :
    ∃ (S : State) (q : Addr) (ce : Cell), (∀ target, Steps p.tables e below ((S.setTop g).pushFrame (.throwing q)) target → Steps p.tables e below ((W.setTop g).pushFrame (.throwNew cls (some text) none)) target) ∧
      Stand p l e R s m₀ args below meth c S locs (cells + 3) (slots + ((stringBytes (stringToUtf16 text)).size + 4 + 6)) ∧ S.heap[q]? = some ce ∧ s.vm.findClass cls = some ce.cls ∧ ce.vm = .none := by
  have howns : e.platform.frameOwnsMonitors = true := by rw [X.admits.platform]
  have hfin : e.platform.finalization = false := by rw [X.admits.platform]
  have hpl : e.platform.magicAccessors = ({} : Platform).magicAccessors := by rw [X.admits.platform]
  have a : ∀ x, x ∈ Bundle.messageArmAtoms cls names → x.holds args s none s [] = true := fun x hx => h x hx
  obtain ⟨T, Z0, L, -, Y⟩ := ThrowableC.of_atoms (args := args) howns hfin hpl (fun x hx => h x (by simp [Bundle.messageArmAtoms, hx]))
  obtain ⟨Z, M, LZ, LM, hnZ⟩ := Init0T.ofS_atoms (args := args) hpl L Y (fun x hx => h x (by simp [Bundle.messageArmAtoms, hx]))
  obtain ⟨P1, Ps, hlen, L1, hL, hP1m, hlink1, hlink⟩ := Bundle.chainS (args := args) hpl hnZ names cls hcls hnames (fun x hx => h x (by simp [Bundle.messageArmAtoms, hx]))
  obtain ⟨Zs, LZs, hn4, hfitv, hfitc⟩ := StringT.of_atoms (args := args) (fun x hx => h x (by simp [Bundle.messageArmAtoms, hx]))
  have hfound : s.vm.findClass cls = some P1.m.cls := findClass_of_methodNamed hP1m
  obtain ⟨c1, kX, hc1, hk, hord, -, -, hn6⟩ := Cond.instantiable_spec (a (.instantiable cls 6) (by simp [Bundle.messageArmAtoms]))
  cases Option.some.inj (hc1.symm.trans hfound)
  have hinit := Cond.initialized_spec hfound hk (a (.initialized cls) (by simp [Bundle.messageArmAtoms]))
  have hctor : kX.findMethod "<init>" "(Ljava/lang/String;)V" = some P1.m.idx := findMethod_of_methodNamed hP1m hk
  have hsel0 : selectMethod e.platform s.vm P1.m.cls T.fill0 = .method T.fill0 := by
    obtain ⟨c2, r2, m2, q1, q2, q3, q4, -⟩ := Cond.selects_spec (a (.selects cls Bundle.tFill0 Bundle.tFill0) (by simp [Bundle.messageArmAtoms]))
    cases Option.some.inj (q1.symm.trans hfound)
    cases Option.some.inj (q2.symm.trans (State.methodFound?_of_named Y.fill0 (by decide)))
    cases Option.some.inj (q3.symm.trans Y.fill0)
    rw [Launch.admits_selectMethod X.admits]; exact q4
  have hselF : selectMethod e.platform s.vm P1.m.cls T.fill = .method T.fill := by
    obtain ⟨c2, r2, m2, q1, q2, q3, q4, -⟩ := Cond.selects_spec (a (.selects cls Bundle.tFill Bundle.tFill) (by simp [Bundle.messageArmAtoms]))
    cases Option.some.inj (q1.symm.trans hfound)
    cases Option.some.inj (q2.symm.trans (State.methodFound?_of_named Y.fill (by decide)))
    cases Option.some.inj (q3.symm.trans Y.fill)
    rw [Launch.admits_selectMethod X.admits]; exact q4
  obtain ⟨cellS0, hcS0, hiss⟩ := Y.statics
  obtain ⟨u0, hu0⟩ := Cond.staticRefV Y.unassigned L.unassignedStatic L.statics hcS0 hiss (a (.isRef (.static Bundle.tN "UNASSIGNED_STACK" Bundle.steD)) (by simp [Bundle.messageArmAtoms]))
  obtain ⟨sen, hsen⟩ := Cond.staticRefV Y.sentinel L.sentinelStatic L.statics hcS0 hiss (a (.isRef (.static Bundle.tN "SUPPRESSED_SENTINEL" Bundle.listD)) (by simp [Bundle.messageArmAtoms]))
  obtain ⟨ci198, i198, fB, hk198, hg198, ha198, hsB, -, hnB, htB, hffB⟩ := Cond.ownField (t := .object "java/lang/Object") Y.found L.cls (by decide +kernel) (a (.fieldLink Bundle.tN 198 Bundle.tN "backtrace" "Ljava/lang/Object;") (by simp [Bundle.messageArmAtoms])) (a (.lays Bundle.tN Bundle.tN "backtrace" "Ljava/lang/Object;") (by simp [Bundle.messageArmAtoms])) e.platform hpl
  obtain ⟨cellS, hcS', heS, -, hkeep⟩ := X.same.2.2.2.2.2 T.aS cellS0 hcS0
  have hcellS : W.heap[T.aS]? = some cellS := hcS'
  have hout' : ∀ i, (⟨T.aS, i⟩ : Loc) ∉ locs := fun i hmem => by
    have := hlocs _ hmem cellS0 hcS0
    rw [hiss] at this; cases this
  have hknownS : cellS.vm ≠ .unknown := by
    rw [heS]; intro hu
    rw [show cellS0.vm = .unknown from hu] at hiss
    cases hiss
  have hvU : cellS.slots[T.fUnassigned.slot]? = some u0.v := by rw [hkeep _ (hout' _)]; exact hu0
  have hvSen : cellS.slots[T.fSentinel.slot]? = some sen.v := by rw [hkeep _ (hout' _)]; exact hsen
  obtain ⟨iM, hffM⟩ := Y.msg
  obtain ⟨tyC, dC, hdC, hdnC⟩ := Cond.laysAt hfound hk Y.cause (a (.lays cls Bundle.tN "cause" "Ljava/lang/Throwable;") (by simp [Bundle.messageArmAtoms]))
  obtain ⟨tyS, dS, hdS, hdnS⟩ := Cond.laysAt hfound hk Y.stack (a (.lays cls Bundle.tN "stackTrace" Bundle.steD) (by simp [Bundle.messageArmAtoms]))
  obtain ⟨tyP, dP, hdP, hdnP⟩ := Cond.laysAt hfound hk Y.supp (a (.lays cls Bundle.tN "suppressedExceptions" Bundle.listD) (by simp [Bundle.messageArmAtoms]))
  obtain ⟨tyM, dM, hdM, hdnM⟩ := Cond.laysAt hfound hk hffM (a (.lays cls Bundle.tN "detailMessage" "Ljava/lang/String;") (by simp [Bundle.messageArmAtoms]))
  obtain ⟨tyB, dB, hdB, hdnB⟩ := Cond.laysAt hfound hk hffB (a (.lays cls Bundle.tN "backtrace" "Ljava/lang/Object;") (by simp [Bundle.messageArmAtoms]))
  have bC := Cond.laysApart hdB hdC hdnB hdnC (by rw [hnB, Y.causeName]; decide)
  have bS := Cond.laysApart hdB hdS hdnB hdnS (by rw [hnB, Y.stackName]; decide)
  have bP := Cond.laysApart hdB hdP hdnB hdnP (by rw [hnB, Y.suppName]; decide)
  have hbk : ((preparedCellV T.toThrowableT (freshCell P1.m.cls kX) (W.heap.size + 2) u0 sen).withEntry W.cur).slots[fB.slot]? = some .null := by
    have := fresh_default (c := P1.m.cls) tyB
    rw [htB] at this
    simpa [preparedCellV, Cell.setSlot, Cell.withEntry, Array.getElem?_setIfInBounds, bC, bS, bP, bC.symm, bS.symm, bP.symm, defaultValue] using this
  have tkC := Takes.of_laid (v := .ref (W.heap.size + 2)) hk hord tyC (by rw [Y.causeType]; rfl)
  have tkS := Takes.of_laid (v := u0.v) hk hord tyS (by rw [Y.stackType]; exact fits_refV_array _ u0)
  have tkP := Takes.of_laid (v := sen.v) hk hord tyP (by rw [Y.suppType]; exact fits_refV_object _ sen)
  have tkM := Takes.of_laid (v := .ref (W.heap.size + 1)) hk hord tyM (by rw [Y.msgType]; rfl)
  have hskip : SkipFacts T e.platform s (fun u => u) u0 ((preparedCellV T.toThrowableT (freshCell P1.m.cls kX) (W.heap.size + 2) u0 sen).withEntry W.cur) := ⟨{ ci198 := ci198, i198 := i198, fBack := fB }, ⟨hk198, hg198, ha198, hsB⟩, hbk, fun _ _ => rfl⟩
  have h0 : At W g.method c below := by rw [hg]; exact X.here
  obtain ⟨hbeyond, hfreeW⟩ := X.vmMayThrow hsize (.throwNew cls (some text) none) (fun f hf => by cases hf) rfl hRlocals
  have hfr' : W.frames.length + Ps.length + 4 < (e.platform.stackLimits W.me).1 := by have := X.framesAbove hRframes; omega
  have hwd' : (stackUse (.java g :: W.frames.tail)).2 + 13 * Ps.length + 55 ≤ (e.platform.stackLimits W.me).2 := by have := X.stackAbove hsize (K := 13 * Ps.length + 55) (by omega); omega
  have hslots : W.slotsUsed + (stringBytes (stringToUtf16 text)).size + Zs.kS.instanceTypes.size + kX.instanceTypes.size ≤ e.platform.maxSlots := by
    have := X.slotsAbove hRslots
    rw [hn4, hn6]
    omega
  obtain ⟨vm', hW', st⟩ := Steps.vmThrowsMessageColdByV p (s₀ := s) (S := W) (g := g) h0 hexec T L Z LZ M LM X.warmed (t := W.cur) rfl Zs LZs P1 L1 Ps hL hlink1 hlink hsoe hoom hfound hk hinit hord hctor
    (Launch.admits_hotImplicitExceptions X.admits) hbeyond hfreeW htext hlimit hheap (X.cellsAbove hRcells) hslots (hfitv _) (hfitc _)
    (Nn := fun u => u) heapOnly_id (fun _ _ => rfl) (fun _ => rfl) (fun u x y => setCell_twice _ _ _ _) (fun _ => Nat.le_refl _) (cN := ((preparedCellV T.toThrowableT (freshCell P1.m.cls kX) (W.heap.size + 2) u0 sen).withEntry W.cur))
    hsel0 hcellS hknownS hvU tkS (fun _ hu => hu) (fun _ hu => hu) rfl rfl rfl (by simp [preparedCellV, Cell.setSlot, Cell.withEntry]) hskip (fun _ _ hA hW _ hroom _ hrest => L.nativeOff p htr hA hW hroom hrest) hselF hvSen tkC tkP tkM Y.objLocals rfl hfr' hwd'
  rw [plainBareV_eq T.toThrowableT (W.heap.size + 2) u0 sen (.ref (W.heap.size + 1)) W.cur rfl rfl] at st
  obtain ⟨-, -, w3, w4, -, -, -⟩ := withThrown_facts e.platform W Zs text P1.m.cls kX
  have X3 := ((X.pushed (bytesOf Zs.cB (stringToUtf16 text))).pushed (stringAt Zs.cS Zs.kS Zs.fv Zs.fc (stringToUtf16 text) W.heap.size)).pushed (freshCell P1.m.cls kX)
  rw [← withString_eq] at X3
  have X4 := X3.noted hW'
  have ha : (W.heap.size + 2) < ((withThrown W Zs text P1.m.cls kX).setVm vm').heap.size := by show _ < (withThrown W Zs text P1.m.cls kX).heap.size; rw [w3]; omega
  have hcell : ((withThrown W Zs text P1.m.cls kX).setVm vm').heap[(W.heap.size + 2)]? = some (freshCell P1.m.cls kX) := w4
  have X5 := ((((X4.stored hcell T.fCause.slot (.ref (W.heap.size + 2))).storedAgain ha T.fStack.slot u0.v).storedAgain ha T.fSupp.slot sen.v).storedAgain ha T.fStack.slot u0.v).storedAgain ha T.fMsg.slot (.ref (W.heap.size + 1))
  obtain ⟨g₁, hfrM⟩ := X5.frames_eq
  have hU : ((((withThrown W Zs text P1.m.cls kX).setVm vm').setCell (W.heap.size + 2) (plainBareV T.toThrowableT (freshCell P1.m.cls kX) (W.heap.size + 2) u0 sen (.ref (W.heap.size + 1)))).setTop g).pushFrame (.throwing (W.heap.size + 2)) = (((withThrown W Zs text P1.m.cls kX).setVm vm').setCell (W.heap.size + 2) (plainBareV T.toThrowableT (freshCell P1.m.cls kX) (W.heap.size + 2) u0 sen (.ref (W.heap.size + 1)))).setFrames (.throwing (W.heap.size + 2) :: .java g :: below) := by
    rw [State.pushFrame, State.frames_setTop _ hfrM, State.setTop_of_frames _ hfrM, State.setFrames_setFrames]
  have b1 : (bytesOf Zs.cB (stringToUtf16 text)).slots.size = (stringBytes (stringToUtf16 text)).size := by
    rw [(Cell.writeAll_facts _ _).2.2]; simp [bytes0]
  have b2 : (stringAt Zs.cS Zs.kS Zs.fv Zs.fc (stringToUtf16 text) W.heap.size).slots.size = 4 := by simp [string0, Cell.setSlot, hn4]
  have b3 : (freshCell P1.m.cls kX).slots.size = 6 := by simp [hn6]
  rw [b1, b2, b3] at X5
  have e9 : slots + (stringBytes (stringToUtf16 text)).size + 4 + 6 = slots + ((stringBytes (stringToUtf16 text)).size + 4 + 6) := by omega
  rw [e9] at X5
  simp only [List.append_assoc, List.cons_append, List.nil_append] at X5
  refine ⟨((withThrown W Zs text P1.m.cls kX).setVm vm').setCell (W.heap.size + 2) (plainBareV T.toThrowableT (freshCell P1.m.cls kX) (W.heap.size + 2) u0 sen (.ref (W.heap.size + 1))), W.heap.size + 2, _, fun target ht => st _ (by rw [X.tail, ← hU]; exact ht),
    X5.forget (fun y hy => ?_), heapAt_setCell_self _ ha, hfound, rfl⟩
  simp only [List.mem_cons, List.not_mem_nil, or_false] at hy
  have hge : s.heap.size ≤ W.heap.size := X.same.2.1
  rcases hy with rfl | rfl | rfl | rfl | rfl <;> exact Nat.le_trans hge (Nat.le_add_right _ 2)
set_option maxHeartbeats 1000000 in
/-- the machine throws NullPointerException, no traces kept: from its note over the frame g to 'throwing' over the same frame (follows the proof of Stand.vmThrowsNpe, Shelf42/KT2.lean; throwsNpeColdBareVAt, Shelf42/NT91.lean, called) -/
theorem vx_npeAt {p : Program} {l : Launch} {e : Env} {R : Room} {s : State} {m₀ : MethodId} {args : Array Value} {below : List Frame} {meth : Method} {c : Code} {W : State} {locs : List Loc} {cells slots : Nat}
    (X : Stand p l e R s m₀ args below meth c W locs cells slots) (hexec : p.tables.exec = Jvm.exec) (htr : e.platform.stackTraces = false) {n : Nat}
    (h : ∀ a ∈ Bundle.npeArmAtoms n, a.before args s = true)
    (hlocs : ∀ x ∈ locs, ∀ cell, s.heap[x.base]? = some cell → cell.vm.isStatics = false)
    {g : JFrame} (hg : g.method = m₀) (hsize : g.locals.size = c.maxLocals)
    (hRframes : 7 < R.frames) (hRlocals : 2 * g.monitorRoom + (g.stack.map fun v => v.category).sum + 10240 ≤ R.locals)
    (hRcells : cells + 1 ≤ R.cells) (hRslots : slots + n ≤ R.slots) (hlocks : meth.locks = false) :
    ∃ (S : State) (q : Addr) (ce : Cell), (∀ target, Steps p.tables e below ((S.setTop g).pushFrame (.throwing q)) target → Steps p.tables e below ((W.setTop g).pushFrame (.throwNew "java/lang/NullPointerException" none none)) target) ∧
      Stand p l e R s m₀ args below meth c S locs (cells + 1) (slots + n) ∧ S.heap[q]? = some ce ∧ s.vm.findClass "java/lang/NullPointerException" = some ce.cls ∧ ce.vm = .none := by
  have howns : e.platform.frameOwnsMonitors = true := by rw [X.admits.platform]
  have hfin : e.platform.finalization = false := by rw [X.admits.platform]
  have hpl : e.platform.magicAccessors = ({} : Platform).magicAccessors := by rw [X.admits.platform]
  have hpl2 : e.platform.arrayCloneIsPublic = true := by rw [X.admits.platform]
  have a' : ∀ x, x ∈ Bundle.npeArmAtoms n → x.holds args s none s [] = true := fun x hx => h x hx
  obtain ⟨T, Z, L, LZ, Y⟩ := ThrowableC.of_atoms (args := args) howns hfin hpl (fun x hx => h x (by simp [Bundle.npeArmAtoms, hx]))
  obtain ⟨N, LN, hcN, hnNF, hordN, hffS⟩ := NpeC.of_atoms (args := args) hpl hpl2 L Y (fun x hx => h x (by simp [Bundle.npeArmAtoms, hx]))
  obtain ⟨P1, L1, hP1m, hP1s⟩ := PassC.of_atoms (args := args) (s := s) hpl (X := Bundle.nN) (Y := Bundle.rN) (by decide) (by decide) LibCode.NullPointerException.Init0.at_0 LibCode.NullPointerException.Init0.at_1 LibCode.NullPointerException.Init0.at_4 (fun x hx => h x (by simp [Bundle.npeArmAtoms, hx]))
  obtain ⟨PR, LR, hPRm, hPRs⟩ := PassC.of_atoms (args := args) (s := s) hpl (X := Bundle.rN) (Y := Bundle.eN) (by decide) (by decide) LibCode.RuntimeException.Init0.at_0 LibCode.RuntimeException.Init0.at_1 LibCode.RuntimeException.Init0.at_4 (fun x hx => h x (by simp [Bundle.npeArmAtoms, hx]))
  obtain ⟨PE, LEx, hPEm, hPEs⟩ := PassC.of_atoms (args := args) (s := s) hpl (X := Bundle.eN) (Y := Bundle.tN) (by decide) (by decide) LibCode.Exception.Init0.at_0 LibCode.Exception.Init0.at_1 LibCode.Exception.Init0.at_4 (fun x hx => h x (by simp [Bundle.npeArmAtoms, hx]))
  have hfound : s.vm.findClass Bundle.nN = some P1.m.cls := findClass_of_methodNamed hP1m
  have ecls : N.cN = P1.m.cls := Option.some.inj (hcN.symm.trans hfound)
  have hk : s.vm.classes[P1.m.cls]? = some N.kN := by rw [← ecls]; exact LN.cls
  have hinit := Cond.initialized_spec hfound hk (a' (.initialized Bundle.nN) (by simp [Bundle.npeArmAtoms]))
  have hctor : N.kN.findMethod "<init>" "()V" = some P1.m.idx := findMethod_of_methodNamed hP1m hk
  obtain ⟨c1, k1, hc1, hk1, -, -, -, hn⟩ := Cond.instantiable_spec (a' (.instantiable Bundle.nN n) (by simp [Bundle.npeArmAtoms]))
  cases Option.some.inj (hc1.symm.trans hfound)
  cases Option.some.inj (hk1.symm.trans hk)
  have hfsz : (freshCell P1.m.cls N.kN).slots.size = n := by simp [hn]
  have hlink1 : P1.sup = PR.m := Option.some.inj (hP1s.symm.trans hPRm)
  have hlinkR : PR.sup = PE.m := Option.some.inj (hPRs.symm.trans hPEm)
  have hlinkE : PE.sup = Z.m T.toThrowableT := Option.some.inj (hPEs.symm.trans Y.init0)
  have hLs : ∀ P, P ∈ [PR, PE] → P.Links0 e.platform s := fun P hP => by
    simp only [List.mem_cons, List.not_mem_nil, or_false] at hP
    rcases hP with rfl | rfl
    · exact LR
    · exact LEx
  have hsel0 : selectMethod e.platform s.vm P1.m.cls T.fill0 = .method T.fill0 := by
    obtain ⟨c2, r2, m2, q1, q2, q3, q4, -⟩ := Cond.selects_spec (a' (.selects Bundle.nN Bundle.tFill0 Bundle.tFill0) (by simp [Bundle.npeArmAtoms]))
    cases Option.some.inj (q1.symm.trans hfound)
    cases Option.some.inj (q2.symm.trans (State.methodFound?_of_named Y.fill0 (by decide)))
    cases Option.some.inj (q3.symm.trans Y.fill0)
    rw [Launch.admits_selectMethod X.admits]; exact q4
  have hselF : selectMethod e.platform s.vm P1.m.cls T.fill = .method N.fill := by
    obtain ⟨c2, r2, m2, q1, q2, q3, q4, -⟩ := Cond.selects_spec (a' (.selects Bundle.nN Bundle.tFill Bundle.nFill) (by simp [Bundle.npeArmAtoms]))
    cases Option.some.inj (q1.symm.trans hfound)
    cases Option.some.inj (q2.symm.trans (State.methodFound?_of_named Y.fill (by decide)))
    cases Option.some.inj (q3.symm.trans hnNF)
    rw [Launch.admits_selectMethod X.admits]; exact q4
  obtain ⟨cellS0, hcS0, hiss⟩ := Y.statics
  obtain ⟨u0, hu0⟩ := Cond.staticRefV Y.unassigned L.unassignedStatic L.statics hcS0 hiss (a' (.isRef (.static Bundle.tN "UNASSIGNED_STACK" Bundle.steD)) (by simp [Bundle.npeArmAtoms]))
  obtain ⟨sen, hsen⟩ := Cond.staticRefV Y.sentinel L.sentinelStatic L.statics hcS0 hiss (a' (.isRef (.static Bundle.tN "SUPPRESSED_SENTINEL" Bundle.listD)) (by simp [Bundle.npeArmAtoms]))
  obtain ⟨ci198, i198, fB, hk198, hg198, ha198, hsB, -, hnB, htB, hffB⟩ := Cond.ownField (t := .object "java/lang/Object") Y.found L.cls (by decide +kernel) (a' (.fieldLink Bundle.tN 198 Bundle.tN "backtrace" Bundle.objD) (by simp [Bundle.npeArmAtoms])) (a' (.lays Bundle.tN Bundle.tN "backtrace" Bundle.objD) (by simp [Bundle.npeArmAtoms])) e.platform hpl
  obtain ⟨cellS, hcS', heS, -, hkeep⟩ := X.same.2.2.2.2.2 T.aS cellS0 hcS0
  have hcellS : W.heap[T.aS]? = some cellS := hcS'
  have hout' : ∀ i, (⟨T.aS, i⟩ : Loc) ∉ locs := fun i hmem => by
    have := hlocs _ hmem cellS0 hcS0
    rw [hiss] at this; cases this
  have hknownS : cellS.vm ≠ .unknown := by
    rw [heS]; intro hu
    rw [show cellS0.vm = .unknown from hu] at hiss
    cases hiss
  have hvU : cellS.slots[T.fUnassigned.slot]? = some u0.v := by rw [hkeep _ (hout' _)]; exact hu0
  have hvSen : cellS.slots[T.fSentinel.slot]? = some sen.v := by rw [hkeep _ (hout' _)]; exact hsen
  obtain ⟨tyC, dC, hdC, hdnC⟩ := Cond.laysAt hfound hk Y.cause (a' (.lays Bundle.nN Bundle.tN "cause" "Ljava/lang/Throwable;") (by simp [Bundle.npeArmAtoms]))
  obtain ⟨tyS, dS, hdS, hdnS⟩ := Cond.laysAt hfound hk Y.stack (a' (.lays Bundle.nN Bundle.tN "stackTrace" Bundle.steD) (by simp [Bundle.npeArmAtoms]))
  obtain ⟨tyP, dP, hdP, hdnP⟩ := Cond.laysAt hfound hk Y.supp (a' (.lays Bundle.nN Bundle.tN "suppressedExceptions" Bundle.listD) (by simp [Bundle.npeArmAtoms]))
  obtain ⟨tyX, dX, hdX, hdnX⟩ := Cond.laysAt hfound hk hffS (a' (.lays Bundle.nN Bundle.nN "extendedMessageState" "I") (by simp [Bundle.npeArmAtoms, Bundle.npeAtoms]))
  obtain ⟨hnX, htX⟩ := State.fieldFound?_type hffS (t := .int) (by decide +kernel)
  have xC := Cond.laysApart hdC hdX hdnC hdnX (by rw [hnX, Y.causeName]; decide)
  have xS := Cond.laysApart hdS hdX hdnS hdnX (by rw [hnX, Y.stackName]; decide)
  have xP := Cond.laysApart hdP hdX hdnP hdnX (by rw [hnX, Y.suppName]; decide)
  have hv0 : (freshCell P1.m.cls N.kN).slots[N.fState.slot]? = some (.int 0) := by
    have := fresh_default (c := P1.m.cls) tyX
    rw [htX] at this; exact this
  obtain ⟨tyB, dB, hdB, hdnB⟩ := Cond.laysAt hfound hk hffB (a' (.lays Bundle.nN Bundle.tN "backtrace" Bundle.objD) (by simp [Bundle.npeArmAtoms]))
  have bC := Cond.laysApart hdB hdC hdnB hdnC (by rw [hnB, Y.causeName]; decide)
  have bS := Cond.laysApart hdB hdS hdnB hdnS (by rw [hnB, Y.stackName]; decide)
  have bP := Cond.laysApart hdB hdP hdnB hdnP (by rw [hnB, Y.suppName]; decide)
  have bX := Cond.laysApart hdB hdX hdnB hdnX (by rw [hnB, hnX]; decide)
  have hbk : ((npeCell N.toNpeT (preparedCellV T.toThrowableT (freshCell P1.m.cls N.kN) W.heap.size u0 sen) W.cur).withEntry W.cur).slots[fB.slot]? = some .null := by
    have := fresh_default (c := P1.m.cls) tyB
    rw [htB] at this
    simpa [npeCell, preparedCellV, Cell.setSlot, Cell.withEntry, Array.getElem?_setIfInBounds, bC, bS, bP, bX, bC.symm, bS.symm, bP.symm, bX.symm, defaultValue] using this
  have tkC := Takes.of_laid (v := .ref W.heap.size) hk hordN tyC (by rw [Y.causeType]; rfl)
  have tkS := Takes.of_laid (v := u0.v) hk hordN tyS (by rw [Y.stackType]; exact fits_refV_array _ u0)
  have tkP := Takes.of_laid (v := sen.v) hk hordN tyP (by rw [Y.suppType]; exact fits_refV_object _ sen)
  have tkX := Takes.of_laid (v := .int 1) hk hordN tyX (by rw [htX]; rfl)
  have hskip : SkipFacts T e.platform s (fun u => u) u0 ((npeCell N.toNpeT (preparedCellV T.toThrowableT (freshCell P1.m.cls N.kN) W.heap.size u0 sen) W.cur).withEntry W.cur) := ⟨{ ci198 := ci198, i198 := i198, fBack := fB }, ⟨hk198, hg198, ha198, hsB⟩, hbk, fun _ _ => rfl⟩
  obtain ⟨vm', X3, st, -⟩ := X.throwsNpeColdBareVAt hexec hg hsize T L Z LZ N LN P1 L1 [PR, PE] hLs hlink1 ⟨hlinkR, hlinkE, trivial⟩ hfound hk hinit hordN hctor hsel0 hselF hcellS hknownS hvU hvSen
    hv0 xC xS xP tkC tkS tkP tkX Y.objLocals hskip (fun _ _ hA hW _ hroom _ hrest => L.nativeOff p htr hA hW hroom hrest) (by simpa using hRframes) hRlocals (by simp) hRcells (by rw [hn]; exact hRslots)
  have hlt : W.heap.size < ((W.pushCell (freshCell P1.m.cls N.kN)).setVm vm').heap.size := by
    show W.heap.size < (W.pushCell (freshCell P1.m.cls N.kN)).heap.size
    rw [State.heap_size_pushCell]; omega
  rw [hfsz] at X3
  obtain ⟨g₁, hfrM⟩ := X3.frames_eq
  have hU : ((((W.pushCell (freshCell P1.m.cls N.kN)).setVm vm').setCell W.heap.size (npeBareV T.toThrowableT N.toNpeT (freshCell P1.m.cls N.kN) W.heap.size u0 sen)).setTop g).pushFrame (.throwing W.heap.size) = (((W.pushCell (freshCell P1.m.cls N.kN)).setVm vm').setCell W.heap.size (npeBareV T.toThrowableT N.toNpeT (freshCell P1.m.cls N.kN) W.heap.size u0 sen)).setFrames (.throwing W.heap.size :: .java g :: below) := by
    rw [State.pushFrame, State.frames_setTop _ hfrM, State.setTop_of_frames _ hfrM, State.setFrames_setFrames]
  refine ⟨_, W.heap.size, _, fun target ht => st.trans (by rw [← hU]; exact ht), X3.forget (fun y hy => ?_), heapAt_setCell_self _ hlt, hfound, rfl⟩
  simp only [List.mem_cons, List.not_mem_nil, or_false] at hy
  have hge : s.heap.size ≤ W.heap.size := X.same.2.1
  rcases hy with rfl | rfl | rfl | rfl | rfl <;> exact hge
/-- the words of a machine's NullPointerException, but the four that speak of the heap -/
def vx_atN (n : Nat) : List Cond := (Bundle.npeArmAtoms n).filter vx_no
/-- the words of a machine's throw with a message, but the four that speak of the heap -/
def vx_atM (X : String) (names : List String) : List Cond := (Bundle.messageArmAtoms X names).filter vx_no
section
variable {p : Program} {l : Launch} {e : Env} {R : Room} {s : State} {m : MethodId} {args : Array Value} {below : List Frame} {meth : Method} {c : Code} {H : Heap} {locs : List Loc} {cells slots : Nat}
/-- a frame seen from a rebased start, seen from the first start again -/
theorem vx_back9 {T S : State} {R' : Room} {k n : Nat} (X : Stand p l e R s m args below meth c T locs cells slots) (Y : Stand p l e R' ((T.setVm s.vm).setFrames (.invoking m args :: below)) m args below meth c T [] 0 0) (Z : Stand p l e R' ((T.setVm s.vm).setFrames (.invoking m args :: below)) m args below meth c S [] k n) :
    Stand p l e R s m args below meth c S locs (cells + k) (slots + n) := by
  have hW0 : s.WarmedH ((T.setVm s.vm).setFrames (.invoking m args :: below)).vm := State.WarmedH.refl s
  refine { admits := X.admits, cas := X.cas, clock := X.clock, frames := X.frames, room := X.room, hears := X.hears, method := X.method, code := X.code, here := Z.here, tail := Z.tail, warmed := State.WarmedH.trans hW0 Z.warmed, limits := Z.limits.trans (Y.limits.symm.trans X.limits), bytes := Z.bytes.trans (Y.bytes.symm.trans X.bytes), same := ?_ }
  obtain ⟨e1, e2⟩ := Z.same
  rw [State.setFrames_setFrames] at e1
  have h2 : (T.setVm s.vm).sameButNew (S.setVm s.vm) [] k n := ⟨e1, e2⟩
  have h3 := X.same.trans h2
  rw [List.append_nil] at h3
  exact h3
/-- from the machine's note that E is thrown here with this text -/
def vx_Note (p : Program) (l : Launch) (e : Env) (R : Room) (s : State) (m : MethodId) (args : Array Value) (below : List Frame) (meth : Method) (c : Code) (H : Heap) (locs : List Loc) (cells slots : Nat) (Q : State → Prop) (g : JFrame) (E text : String) : Prop :=
  ∀ T : State, T.heap = H → Stand p l e R s m args below meth c T locs cells slots → ∃ t, Steps p.tables e below ((T.setTop g).pushFrame (.throwNew E (some text) none)) t ∧ Q t
theorem vx_vm {pc : Nat} {ls : Array Slot} {rest : List Value} {Q : State → Prop} (hexec : p.tables.exec = Jvm.exec) (hl : l.stackTraces = false) {cls text : String} {names : List String} {nb : Nat} {A : Nat → Prop}
    (hcls : Bundle.fit cls = true) (hnames : ∀ n ∈ names, Bundle.fit n = true) (hsoe : (cls == "java/lang/StackOverflowError") = false) (hoom : (cls == "java/lang/OutOfMemoryError") = false)
    (hat : ∀ w ∈ vx_atM cls names, w.before args s = true) (hgood : ∀ w ∈ vx_atM cls names, vx_ot w = true)
    (hU : vx_Zq Bundle.tN "UNASSIGNED_STACK" Bundle.steD A s s.heap) (hN : vx_Zq Bundle.tN "SUPPRESSED_SENTINEL" Bundle.listD A s s.heap) (hS : va_S A s.heap H locs) (hsize : ls.size = c.maxLocals)
    (htext : (text == notModelled) = false) (hnb : (stringBytes (stringToUtf16 text)).size ≤ nb) (hnb1 : nb ≤ 1000)
    (hRframes : names.length + 4 < R.frames) (hRlocals : (rest.map fun v => v.category).sum + 10240 ≤ R.locals) (hshort : 13 * names.length + 55 ≤ 10240) (hRcells : cells + 3 ≤ R.cells) (hRslots : slots + (nb + 10) ≤ R.slots) (hlocks : meth.locks = false)
    (k : ∀ (H1 : Heap) (q9 : Addr) (ce : Cell), H.size ≤ H1.size → (∀ q : Nat, q < H.size → H1[q]? = H[q]?) → va_S A s.heap H1 locs → H1[q9]? = some ce → ce.vm = .none → s.vm.findClass cls = some ce.cls → vx_W p l e R s m args below meth c H1 locs (cells + 3) (slots + (nb + 10)) Q (F0 m pc ls rest) q9) :
    vx_Note p l e R s m args below meth c H locs cells slots Q (F0 m pc ls rest) cls text := by
  intro T hT X
  have htr : e.platform.stackTraces = false := (show e.platform.stackTraces = l.stackTraces by rw [X.admits.platform]).trans hl
  have Y := vx_rebase X (R' := { frames := R.frames, locals := R.locals, cells := 3, slots := nb + 10 }) (Nat.le_refl _) (Nat.le_refl _) hRcells hRslots
  have hhp : ((T.setVm s.vm).setFrames (.invoking m args :: below)).heap = H := hT
  have hW0 : s.WarmedH ((T.setVm s.vm).setFrames (.invoking m args :: below)).vm := State.WarmedH.refl s
  have hat' : ∀ w ∈ vx_atM cls names, w.before args ((T.setVm s.vm).setFrames (.invoking m args :: below)) = true := fun w hw => vx_ot_at hW0 rfl (hgood w hw) (hat w hw)
  have hU' : vx_Zq Bundle.tN "UNASSIGNED_STACK" Bundle.steD A ((T.setVm s.vm).setFrames (.invoking m args :: below)) ((T.setVm s.vm).setFrames (.invoking m args :: below)).heap := by rw [hhp]; exact vx_Zq.moved hW0.alike (hU.kept hS.2.1)
  have hN' : vx_Zq Bundle.tN "SUPPRESSED_SENTINEL" Bundle.listD A ((T.setVm s.vm).setFrames (.invoking m args :: below)) ((T.setVm s.vm).setFrames (.invoking m args :: below)).heap := by rw [hhp]; exact vx_Zq.moved hW0.alike (hN.kept hS.2.1)
  obtain ⟨S, q, ce, st, Z, hce, hcl', hv⟩ := vx_vmAt Y hexec htr (cls := cls) (names := names) (text := text) hcls hnames hsoe hoom (vx_own hat' (vx_isRefq hU'.1) (vx_isRefq hN'.1) hU'.2.word hN'.2.word) (fun x hx => nomatch hx) htext
    (by rw [Launch.admits_arrayLengthLimit X.admits]; omega) (by rw [Launch.admits_maxHeapBytes X.admits]; simp only [componentBytes]; omega)
    (g := F0 m pc ls rest) rfl hsize hRframes (by show 2 * 0 + (rest.map fun v => v.category).sum + 10240 ≤ R.locals; omega) hshort (by show 0 + 3 ≤ 3; omega) (by show 0 + (_ + 4 + 6) ≤ nb + 10; omega) hlocks
  obtain ⟨f1, f2⟩ := vx_frame Z.same
  have f1' : H.size ≤ S.heap.size := by rw [← hT]; exact f1
  have f2' : ∀ q : Nat, q < H.size → S.heap[q]? = H[q]? := fun q hq => by
    rw [← hT]
    exact f2 q (by rw [← hT] at hq; exact hq) (fun z hz => nomatch hz)
  have X5 := vx_back9 X Y Z
  have X6 : Stand p l e R s m args below meth c S locs (cells + 3) (slots + (nb + 10)) := { X5 with same := X5.same.mono (by omega) (by omega) }
  obtain ⟨t, a1, b1⟩ := k S.heap q ce f1' f2' ⟨Nat.le_trans hS.1 f1', fun q h1 h2 => (f2' q (Nat.lt_of_lt_of_le h1 hS.1)).trans (hS.2.1 q h1 h2), hS.2.2⟩ hce hv hcl' S rfl X6
  exact ⟨t, st t a1, b1⟩
/-- from the machine's note that NullPointerException is thrown here -/
def vx_NoteN (p : Program) (l : Launch) (e : Env) (R : Room) (s : State) (m : MethodId) (args : Array Value) (below : List Frame) (meth : Method) (c : Code) (H : Heap) (locs : List Loc) (cells slots : Nat) (Q : State → Prop) (g : JFrame) : Prop :=
  ∀ T : State, T.heap = H → Stand p l e R s m args below meth c T locs cells slots → ∃ t, Steps p.tables e below ((T.setTop g).pushFrame (.throwNew "java/lang/NullPointerException" none none)) t ∧ Q t
theorem vx_npe {pc : Nat} {ls : Array Slot} {rest : List Value} {Q : State → Prop} (hexec : p.tables.exec = Jvm.exec) (hl : l.stackTraces = false) {nb : Nat} {A : Nat → Prop}
    (hat : ∀ w ∈ vx_atN nb, w.before args s = true) (hgood : ∀ w ∈ vx_atN nb, vx_ot w = true)
    (hU : vx_Zq Bundle.tN "UNASSIGNED_STACK" Bundle.steD A s s.heap) (hN : vx_Zq Bundle.tN "SUPPRESSED_SENTINEL" Bundle.listD A s s.heap) (hS : va_S A s.heap H locs) (hsize : ls.size = c.maxLocals)
    (hRframes : 7 < R.frames) (hRlocals : (rest.map fun v => v.category).sum + 10240 ≤ R.locals) (hRcells : cells + 1 ≤ R.cells) (hRslots : slots + nb ≤ R.slots) (hlocks : meth.locks = false)
    (k : ∀ (H1 : Heap) (q9 : Addr) (ce : Cell), H.size ≤ H1.size → (∀ q : Nat, q < H.size → H1[q]? = H[q]?) → va_S A s.heap H1 locs → H1[q9]? = some ce → ce.vm = .none → s.vm.findClass "java/lang/NullPointerException" = some ce.cls → vx_W p l e R s m args below meth c H1 locs (cells + 1) (slots + nb) Q (F0 m pc ls rest) q9) :
    vx_NoteN p l e R s m args below meth c H locs cells slots Q (F0 m pc ls rest) := by
  intro T hT X
  have htr : e.platform.stackTraces = false := (show e.platform.stackTraces = l.stackTraces by rw [X.admits.platform]).trans hl
  have Y := vx_rebase X (R' := { frames := R.frames, locals := R.locals, cells := 1, slots := nb }) (Nat.le_refl _) (Nat.le_refl _) hRcells hRslots
  have hhp : ((T.setVm s.vm).setFrames (.invoking m args :: below)).heap = H := hT
  have hW0 : s.WarmedH ((T.setVm s.vm).setFrames (.invoking m args :: below)).vm := State.WarmedH.refl s
  have hat' : ∀ w ∈ vx_atN nb, w.before args ((T.setVm s.vm).setFrames (.invoking m args :: below)) = true := fun w hw => vx_ot_at hW0 rfl (hgood w hw) (hat w hw)
  have hU' : vx_Zq Bundle.tN "UNASSIGNED_STACK" Bundle.steD A ((T.setVm s.vm).setFrames (.invoking m args :: below)) ((T.setVm s.vm).setFrames (.invoking m args :: below)).heap := by rw [hhp]; exact vx_Zq.moved hW0.alike (hU.kept hS.2.1)
  have hN' : vx_Zq Bundle.tN "SUPPRESSED_SENTINEL" Bundle.listD A ((T.setVm s.vm).setFrames (.invoking m args :: below)) ((T.setVm s.vm).setFrames (.invoking m args :: below)).heap := by rw [hhp]; exact vx_Zq.moved hW0.alike (hN.kept hS.2.1)
  obtain ⟨S, q, ce, st, Z, hce, hcl', hv⟩ := vx_npeAt Y hexec htr (n := nb) (vx_own hat' (vx_isRefq hU'.1) (vx_isRefq hN'.1) hU'.2.word hN'.2.word) (fun x hx => nomatch hx)
    (g := F0 m pc ls rest) rfl hsize hRframes (by show 2 * 0 + (rest.map fun v => v.category).sum + 10240 ≤ R.locals; omega) (by show 0 + 1 ≤ 1; omega) (by show 0 + nb ≤ nb; omega) hlocks
  obtain ⟨f1, f2⟩ := vx_frame Z.same
  have f1' : H.size ≤ S.heap.size := by rw [← hT]; exact f1
  have f2' : ∀ q : Nat, q < H.size → S.heap[q]? = H[q]? := fun q hq => by
    rw [← hT]
    exact f2 q (by rw [← hT] at hq; exact hq) (fun z hz => nomatch hz)
  have X5 := vx_back9 X Y Z
  have X6 : Stand p l e R s m args below meth c S locs (cells + 1) (slots + nb) := { X5 with same := X5.same.mono (by omega) (by omega) }
  obtain ⟨t, a1, b1⟩ := k S.heap q ce f1' f2' ⟨Nat.le_trans hS.1 f1', fun q h1 h2 => (f2' q (Nat.lt_of_lt_of_le h1 hS.1)).trans (hS.2.1 q h1 h2), hS.2.2⟩ hce hv hcl' S rfl X6
  exact ⟨t, st t a1, b1⟩
variable {Q : State → Prop} {cc : ByteArray} {pc : Nat} {ls : Array Slot} {rest : List Value}
theorem vx_idivZ (hexec : p.tables.exec = Jvm.exec) (hb : c.code = cc) {a b : Int32} (h0 : b = 0) (d : decode cc pc = .ok (.idiv, 1)) (k : vx_Note p l e R s m args below meth c H locs cells slots Q (F0 m pc ls rest) "java/lang/ArithmeticException" "/ by zero") :
    W p l e R s m args below meth c H locs cells slots Q (F0 m pc ls (.int b :: .int a :: rest)) := by
  intro T hT X
  obtain ⟨t, st, q⟩ := k T hT X
  exact ⟨t, X.idivZero hexec (g := F0 m pc ls (.int b :: .int a :: rest)) rfl (a := a) (rest := rest) (by rw [h0]) (by rw [hb]; exact d) t st, q⟩
theorem vx_iremZ (hexec : p.tables.exec = Jvm.exec) (hb : c.code = cc) {a b : Int32} (h0 : b = 0) (d : decode cc pc = .ok (.irem, 1)) (k : vx_Note p l e R s m args below meth c H locs cells slots Q (F0 m pc ls rest) "java/lang/ArithmeticException" "/ by zero") :
    W p l e R s m args below meth c H locs cells slots Q (F0 m pc ls (.int b :: .int a :: rest)) := by
  intro T hT X
  obtain ⟨t, st, q⟩ := k T hT X
  exact ⟨t, X.iremZero hexec (g := F0 m pc ls (.int b :: .int a :: rest)) rfl (a := a) (rest := rest) (by rw [h0]) (by rw [hb]; exact d) t st, q⟩
theorem vx_ldivZ (hexec : p.tables.exec = Jvm.exec) (hb : c.code = cc) {a b : Int64} (h0 : b = 0) (d : decode cc pc = .ok (.ldiv, 1)) (k : vx_Note p l e R s m args below meth c H locs cells slots Q (F0 m pc ls rest) "java/lang/ArithmeticException" "/ by zero") :
    W p l e R s m args below meth c H locs cells slots Q (F0 m pc ls (.long b :: .long a :: rest)) := by
  intro T hT X
  obtain ⟨t, st, q⟩ := k T hT X
  exact ⟨t, X.ldivZero hexec (g := F0 m pc ls (.long b :: .long a :: rest)) rfl (a := a) (rest := rest) (by rw [h0]) (by rw [hb]; exact d) t st, q⟩
theorem vx_lremZ (hexec : p.tables.exec = Jvm.exec) (hb : c.code = cc) {a b : Int64} (h0 : b = 0) (d : decode cc pc = .ok (.lrem, 1)) (k : vx_Note p l e R s m args below meth c H locs cells slots Q (F0 m pc ls rest) "java/lang/ArithmeticException" "/ by zero") :
    W p l e R s m args below meth c H locs cells slots Q (F0 m pc ls (.long b :: .long a :: rest)) := by
  intro T hT X
  obtain ⟨t, st, q⟩ := k T hT X
  exact ⟨t, X.lremZero hexec (g := F0 m pc ls (.long b :: .long a :: rest)) rfl (a := a) (rest := rest) (by rw [h0]) (by rw [hb]; exact d) t st, q⟩
theorem vx_ialdZ {D : va_G} {cl : List vw_C} {ws : va_W} {tys : List (ClassId × FieldType)} {a : Nat} (hexec : p.tables.exec = Jvm.exec) (hb : c.code = cc) (hK : va_K D cl tys s) (hP : va_P D cl ws H) (q0 t0 : Nat) {cA : ClassId} {n : Nat} {f : Nat → Int32} (ha : ws[q0]? = some (a, .inl (cA, n, .inl f))) (ht : tys[t0]? = some (cA, .int)) {i : Int32} (hout : ¬ vp_in i n) (hdg : decode cc pc = .ok (.iaload, 1))
    (k : ∀ tx : String, tx = (toString "Index " ++ toString i ++ toString " out of bounds for length " ++ toString n : String) → vx_Note p l e R s m args below meth c H locs cells slots Q (F0 m pc ls rest) "java/lang/ArrayIndexOutOfBoundsException" tx) : W p l e R s m args below meth c H locs cells slots Q (F0 m pc ls (.int i :: .ref a :: rest)) := by
  intro T hT X
  obtain ⟨t, st, q⟩ := k _ rfl T hT X
  refine ⟨t, ?_, q⟩
  have h1 := X.ialoadOut hexec (by rw [hT]; exact hP q0 _ ha) ((hK.2 t0 _ ht).1 n (fun j => .int (f j))) (j := i) (by show (i < 0 ∨ (arrV _ _ _).slots.size ≤ _); rw [arrV_size]; exact Classical.byContradiction hout) (g := F0 m pc ls (.int i :: .ref a :: rest)) rfl (rest := rest) rfl (by rw [hb]; exact hdg) t
  simp only [arrV_size] at h1
  exact h1 st
theorem vx_iastZ {D : va_G} {cl : List vw_C} {ws : va_W} {tys : List (ClassId × FieldType)} {a : Nat} (hexec : p.tables.exec = Jvm.exec) (hb : c.code = cc) (hK : va_K D cl tys s) (hP : va_P D cl ws H) (q0 t0 : Nat) {cA : ClassId} {n : Nat} {f : Nat → Int32} (ha : ws[q0]? = some (a, .inl (cA, n, .inl f))) (ht : tys[t0]? = some (cA, .int)) {i : Int32} {x : Int32} (hout : ¬ vp_in i n) (hdg : decode cc pc = .ok (.iastore, 1))
    (k : ∀ tx : String, tx = (toString "Index " ++ toString i ++ toString " out of bounds for length " ++ toString n : String) → vx_Note p l e R s m args below meth c H locs cells slots Q (F0 m pc ls rest) "java/lang/ArrayIndexOutOfBoundsException" tx) : W p l e R s m args below meth c H locs cells slots Q (F0 m pc ls (.int x :: .int i :: .ref a :: rest)) := by
  intro T hT X
  obtain ⟨t, st, q⟩ := k _ rfl T hT X
  refine ⟨t, ?_, q⟩
  have h1 := X.iastoreOut hexec (by rw [hT]; exact hP q0 _ ha) ((hK.2 t0 _ ht).1 n (fun j => .int (f j))) (j := i) (by show (i < 0 ∨ (arrV _ _ _).slots.size ≤ _); rw [arrV_size]; exact Classical.byContradiction hout) (g := F0 m pc ls (.int x :: .int i :: .ref a :: rest)) rfl (rest := rest) rfl (by rw [hb]; exact hdg) t
  simp only [arrV_size] at h1
  exact h1 st
theorem vx_baldZ {D : va_G} {cl : List vw_C} {ws : va_W} {tys : List (ClassId × FieldType)} {a : Nat} (hexec : p.tables.exec = Jvm.exec) (hb : c.code = cc) (hK : va_K D cl tys s) (hP : va_P D cl ws H) (q0 t0 : Nat) {cA : ClassId} {n : Nat} {f : Nat → Int32} (ha : ws[q0]? = some (a, .inl (cA, n, .inl f))) (ht : tys[t0]? = some (cA, .byte)) {i : Int32} (hout : ¬ vp_in i n) (hdg : decode cc pc = .ok (.baload, 1))
    (k : ∀ tx : String, tx = (toString "Index " ++ toString i ++ toString " out of bounds for length " ++ toString n : String) → vx_Note p l e R s m args below meth c H locs cells slots Q (F0 m pc ls rest) "java/lang/ArrayIndexOutOfBoundsException" tx) : W p l e R s m args below meth c H locs cells slots Q (F0 m pc ls (.int i :: .ref a :: rest)) := by
  intro T hT X
  obtain ⟨t, st, q⟩ := k _ rfl T hT X
  refine ⟨t, ?_, q⟩
  have h1 := X.baloadOut hexec (by rw [hT]; exact hP q0 _ ha) ((hK.2 t0 _ ht).1 n (fun j => .int (f j))) (j := i) (by show (i < 0 ∨ (arrV _ _ _).slots.size ≤ _); rw [arrV_size]; exact Classical.byContradiction hout) (g := F0 m pc ls (.int i :: .ref a :: rest)) rfl (rest := rest) rfl (by rw [hb]; exact hdg) t
  simp only [arrV_size] at h1
  exact h1 st
theorem vx_bastZ {D : va_G} {cl : List vw_C} {ws : va_W} {tys : List (ClassId × FieldType)} {a : Nat} (hexec : p.tables.exec = Jvm.exec) (hb : c.code = cc) (hK : va_K D cl tys s) (hP : va_P D cl ws H) (q0 t0 : Nat) {cA : ClassId} {n : Nat} {f : Nat → Int32} (ha : ws[q0]? = some (a, .inl (cA, n, .inl f))) (ht : tys[t0]? = some (cA, .byte)) {i : Int32} {x : Int32} (hout : ¬ vp_in i n) (hdg : decode cc pc = .ok (.bastore, 1))
    (k : ∀ tx : String, tx = (toString "Index " ++ toString i ++ toString " out of bounds for length " ++ toString n : String) → vx_Note p l e R s m args below meth c H locs cells slots Q (F0 m pc ls rest) "java/lang/ArrayIndexOutOfBoundsException" tx) : W p l e R s m args below meth c H locs cells slots Q (F0 m pc ls (.int x :: .int i :: .ref a :: rest)) := by
  intro T hT X
  obtain ⟨t, st, q⟩ := k _ rfl T hT X
  refine ⟨t, ?_, q⟩
  have h1 := X.bastoreOut hexec (by rw [hT]; exact hP q0 _ ha) ((hK.2 t0 _ ht).1 n (fun j => .int (f j))) (j := i) (by show (i < 0 ∨ (arrV _ _ _).slots.size ≤ _); rw [arrV_size]; exact Classical.byContradiction hout) (g := F0 m pc ls (.int x :: .int i :: .ref a :: rest)) rfl (rest := rest) rfl (by rw [hb]; exact hdg) t
  simp only [arrV_size] at h1
  exact h1 st
theorem vx_zaldZ {D : va_G} {cl : List vw_C} {ws : va_W} {tys : List (ClassId × FieldType)} {a : Nat} (hexec : p.tables.exec = Jvm.exec) (hb : c.code = cc) (hK : va_K D cl tys s) (hP : va_P D cl ws H) (q0 t0 : Nat) {cA : ClassId} {n : Nat} {f : Nat → Int32} (ha : ws[q0]? = some (a, .inl (cA, n, .inl f))) (ht : tys[t0]? = some (cA, .boolean)) {i : Int32} (hout : ¬ vp_in i n) (hdg : decode cc pc = .ok (.baload, 1))
    (k : ∀ tx : String, tx = (toString "Index " ++ toString i ++ toString " out of bounds for length " ++ toString n : String) → vx_Note p l e R s m args below meth c H locs cells slots Q (F0 m pc ls rest) "java/lang/ArrayIndexOutOfBoundsException" tx) : W p l e R s m args below meth c H locs cells slots Q (F0 m pc ls (.int i :: .ref a :: rest)) := by
  intro T hT X
  obtain ⟨t, st, q⟩ := k _ rfl T hT X
  refine ⟨t, ?_, q⟩
  have h1 := X.baloadOut hexec (by rw [hT]; exact hP q0 _ ha) ((hK.2 t0 _ ht).1 n (fun j => .int (f j))) (j := i) (by show (i < 0 ∨ (arrV _ _ _).slots.size ≤ _); rw [arrV_size]; exact Classical.byContradiction hout) (g := F0 m pc ls (.int i :: .ref a :: rest)) rfl (rest := rest) rfl (by rw [hb]; exact hdg) t
  simp only [arrV_size] at h1
  exact h1 st
theorem vx_zastZ {D : va_G} {cl : List vw_C} {ws : va_W} {tys : List (ClassId × FieldType)} {a : Nat} (hexec : p.tables.exec = Jvm.exec) (hb : c.code = cc) (hK : va_K D cl tys s) (hP : va_P D cl ws H) (q0 t0 : Nat) {cA : ClassId} {n : Nat} {f : Nat → Int32} (ha : ws[q0]? = some (a, .inl (cA, n, .inl f))) (ht : tys[t0]? = some (cA, .boolean)) {i : Int32} {x : Int32} (hout : ¬ vp_in i n) (hdg : decode cc pc = .ok (.bastore, 1))
    (k : ∀ tx : String, tx = (toString "Index " ++ toString i ++ toString " out of bounds for length " ++ toString n : String) → vx_Note p l e R s m args below meth c H locs cells slots Q (F0 m pc ls rest) "java/lang/ArrayIndexOutOfBoundsException" tx) : W p l e R s m args below meth c H locs cells slots Q (F0 m pc ls (.int x :: .int i :: .ref a :: rest)) := by
  intro T hT X
  obtain ⟨t, st, q⟩ := k _ rfl T hT X
  refine ⟨t, ?_, q⟩
  have h1 := X.bastoreOut hexec (by rw [hT]; exact hP q0 _ ha) ((hK.2 t0 _ ht).1 n (fun j => .int (f j))) (j := i) (by show (i < 0 ∨ (arrV _ _ _).slots.size ≤ _); rw [arrV_size]; exact Classical.byContradiction hout) (g := F0 m pc ls (.int x :: .int i :: .ref a :: rest)) rfl (rest := rest) rfl (by rw [hb]; exact hdg) t
  simp only [arrV_size] at h1
  exact h1 st
theorem vx_caldZ {D : va_G} {cl : List vw_C} {ws : va_W} {tys : List (ClassId × FieldType)} {a : Nat} (hexec : p.tables.exec = Jvm.exec) (hb : c.code = cc) (hK : va_K D cl tys s) (hP : va_P D cl ws H) (q0 t0 : Nat) {cA : ClassId} {n : Nat} {f : Nat → Int32} (ha : ws[q0]? = some (a, .inl (cA, n, .inl f))) (ht : tys[t0]? = some (cA, .char)) {i : Int32} (hout : ¬ vp_in i n) (hdg : decode cc pc = .ok (.caload, 1))
    (k : ∀ tx : String, tx = (toString "Index " ++ toString i ++ toString " out of bounds for length " ++ toString n : String) → vx_Note p l e R s m args below meth c H locs cells slots Q (F0 m pc ls rest) "java/lang/ArrayIndexOutOfBoundsException" tx) : W p l e R s m args below meth c H locs cells slots Q (F0 m pc ls (.int i :: .ref a :: rest)) := by
  intro T hT X
  obtain ⟨t, st, q⟩ := k _ rfl T hT X
  refine ⟨t, ?_, q⟩
  have h1 := X.caloadOut hexec (by rw [hT]; exact hP q0 _ ha) ((hK.2 t0 _ ht).1 n (fun j => .int (f j))) (j := i) (by show (i < 0 ∨ (arrV _ _ _).slots.size ≤ _); rw [arrV_size]; exact Classical.byContradiction hout) (g := F0 m pc ls (.int i :: .ref a :: rest)) rfl (rest := rest) rfl (by rw [hb]; exact hdg) t
  simp only [arrV_size] at h1
  exact h1 st
theorem vx_castZ {D : va_G} {cl : List vw_C} {ws : va_W} {tys : List (ClassId × FieldType)} {a : Nat} (hexec : p.tables.exec = Jvm.exec) (hb : c.code = cc) (hK : va_K D cl tys s) (hP : va_P D cl ws H) (q0 t0 : Nat) {cA : ClassId} {n : Nat} {f : Nat → Int32} (ha : ws[q0]? = some (a, .inl (cA, n, .inl f))) (ht : tys[t0]? = some (cA, .char)) {i : Int32} {x : Int32} (hout : ¬ vp_in i n) (hdg : decode cc pc = .ok (.castore, 1))
    (k : ∀ tx : String, tx = (toString "Index " ++ toString i ++ toString " out of bounds for length " ++ toString n : String) → vx_Note p l e R s m args below meth c H locs cells slots Q (F0 m pc ls rest) "java/lang/ArrayIndexOutOfBoundsException" tx) : W p l e R s m args below meth c H locs cells slots Q (F0 m pc ls (.int x :: .int i :: .ref a :: rest)) := by
  intro T hT X
  obtain ⟨t, st, q⟩ := k _ rfl T hT X
  refine ⟨t, ?_, q⟩
  have h1 := X.castoreOut hexec (by rw [hT]; exact hP q0 _ ha) ((hK.2 t0 _ ht).1 n (fun j => .int (f j))) (j := i) (by show (i < 0 ∨ (arrV _ _ _).slots.size ≤ _); rw [arrV_size]; exact Classical.byContradiction hout) (g := F0 m pc ls (.int x :: .int i :: .ref a :: rest)) rfl (rest := rest) rfl (by rw [hb]; exact hdg) t
  simp only [arrV_size] at h1
  exact h1 st
theorem vx_saldZ {D : va_G} {cl : List vw_C} {ws : va_W} {tys : List (ClassId × FieldType)} {a : Nat} (hexec : p.tables.exec = Jvm.exec) (hb : c.code = cc) (hK : va_K D cl tys s) (hP : va_P D cl ws H) (q0 t0 : Nat) {cA : ClassId} {n : Nat} {f : Nat → Int32} (ha : ws[q0]? = some (a, .inl (cA, n, .inl f))) (ht : tys[t0]? = some (cA, .short)) {i : Int32} (hout : ¬ vp_in i n) (hdg : decode cc pc = .ok (.saload, 1))
    (k : ∀ tx : String, tx = (toString "Index " ++ toString i ++ toString " out of bounds for length " ++ toString n : String) → vx_Note p l e R s m args below meth c H locs cells slots Q (F0 m pc ls rest) "java/lang/ArrayIndexOutOfBoundsException" tx) : W p l e R s m args below meth c H locs cells slots Q (F0 m pc ls (.int i :: .ref a :: rest)) := by
  intro T hT X
  obtain ⟨t, st, q⟩ := k _ rfl T hT X
  refine ⟨t, ?_, q⟩
  have h1 := X.saloadOut hexec (by rw [hT]; exact hP q0 _ ha) ((hK.2 t0 _ ht).1 n (fun j => .int (f j))) (j := i) (by show (i < 0 ∨ (arrV _ _ _).slots.size ≤ _); rw [arrV_size]; exact Classical.byContradiction hout) (g := F0 m pc ls (.int i :: .ref a :: rest)) rfl (rest := rest) rfl (by rw [hb]; exact hdg) t
  simp only [arrV_size] at h1
  exact h1 st
theorem vx_sastZ {D : va_G} {cl : List vw_C} {ws : va_W} {tys : List (ClassId × FieldType)} {a : Nat} (hexec : p.tables.exec = Jvm.exec) (hb : c.code = cc) (hK : va_K D cl tys s) (hP : va_P D cl ws H) (q0 t0 : Nat) {cA : ClassId} {n : Nat} {f : Nat → Int32} (ha : ws[q0]? = some (a, .inl (cA, n, .inl f))) (ht : tys[t0]? = some (cA, .short)) {i : Int32} {x : Int32} (hout : ¬ vp_in i n) (hdg : decode cc pc = .ok (.sastore, 1))
    (k : ∀ tx : String, tx = (toString "Index " ++ toString i ++ toString " out of bounds for length " ++ toString n : String) → vx_Note p l e R s m args below meth c H locs cells slots Q (F0 m pc ls rest) "java/lang/ArrayIndexOutOfBoundsException" tx) : W p l e R s m args below meth c H locs cells slots Q (F0 m pc ls (.int x :: .int i :: .ref a :: rest)) := by
  intro T hT X
  obtain ⟨t, st, q⟩ := k _ rfl T hT X
  refine ⟨t, ?_, q⟩
  have h1 := X.sastoreOut hexec (by rw [hT]; exact hP q0 _ ha) ((hK.2 t0 _ ht).1 n (fun j => .int (f j))) (j := i) (by show (i < 0 ∨ (arrV _ _ _).slots.size ≤ _); rw [arrV_size]; exact Classical.byContradiction hout) (g := F0 m pc ls (.int x :: .int i :: .ref a :: rest)) rfl (rest := rest) rfl (by rw [hb]; exact hdg) t
  simp only [arrV_size] at h1
  exact h1 st
theorem vx_laldZ {D : va_G} {cl : List vw_C} {ws : va_W} {tys : List (ClassId × FieldType)} {a : Nat} (hexec : p.tables.exec = Jvm.exec) (hb : c.code = cc) (hK : va_K D cl tys s) (hP : va_P D cl ws H) (q0 t0 : Nat) {cA : ClassId} {n : Nat} {f : Nat → Int64} (ha : ws[q0]? = some (a, .inl (cA, n, .inr (.inl f)))) (ht : tys[t0]? = some (cA, .long)) {i : Int32} (hout : ¬ vp_in i n) (hdg : decode cc pc = .ok (.laload, 1))
    (k : ∀ tx : String, tx = (toString "Index " ++ toString i ++ toString " out of bounds for length " ++ toString n : String) → vx_Note p l e R s m args below meth c H locs cells slots Q (F0 m pc ls rest) "java/lang/ArrayIndexOutOfBoundsException" tx) : W p l e R s m args below meth c H locs cells slots Q (F0 m pc ls (.int i :: .ref a :: rest)) := by
  intro T hT X
  obtain ⟨t, st, q⟩ := k _ rfl T hT X
  refine ⟨t, ?_, q⟩
  have h1 := X.laloadOut hexec (by rw [hT]; exact hP q0 _ ha) ((hK.2 t0 _ ht).1 n (fun j => .long (f j))) (j := i) (by show (i < 0 ∨ (arrV _ _ _).slots.size ≤ _); rw [arrV_size]; exact Classical.byContradiction hout) (g := F0 m pc ls (.int i :: .ref a :: rest)) rfl (rest := rest) rfl (by rw [hb]; exact hdg) t
  simp only [arrV_size] at h1
  exact h1 st
theorem vx_lastZ {D : va_G} {cl : List vw_C} {ws : va_W} {tys : List (ClassId × FieldType)} {a : Nat} (hexec : p.tables.exec = Jvm.exec) (hb : c.code = cc) (hK : va_K D cl tys s) (hP : va_P D cl ws H) (q0 t0 : Nat) {cA : ClassId} {n : Nat} {f : Nat → Int64} (ha : ws[q0]? = some (a, .inl (cA, n, .inr (.inl f)))) (ht : tys[t0]? = some (cA, .long)) {i : Int32} {x : Int64} (hout : ¬ vp_in i n) (hdg : decode cc pc = .ok (.lastore, 1))
    (k : ∀ tx : String, tx = (toString "Index " ++ toString i ++ toString " out of bounds for length " ++ toString n : String) → vx_Note p l e R s m args below meth c H locs cells slots Q (F0 m pc ls rest) "java/lang/ArrayIndexOutOfBoundsException" tx) : W p l e R s m args below meth c H locs cells slots Q (F0 m pc ls (.long x :: .int i :: .ref a :: rest)) := by
  intro T hT X
  obtain ⟨t, st, q⟩ := k _ rfl T hT X
  refine ⟨t, ?_, q⟩
  have h1 := X.lastoreOut hexec (by rw [hT]; exact hP q0 _ ha) ((hK.2 t0 _ ht).1 n (fun j => .long (f j))) (j := i) (by show (i < 0 ∨ (arrV _ _ _).slots.size ≤ _); rw [arrV_size]; exact Classical.byContradiction hout) (g := F0 m pc ls (.long x :: .int i :: .ref a :: rest)) rfl (rest := rest) rfl (by rw [hb]; exact hdg) t
  simp only [arrV_size] at h1
  exact h1 st
theorem vx_faldZ {D : va_G} {cl : List vw_C} {ws : va_W} {tys : List (ClassId × FieldType)} {a : Nat} (hexec : p.tables.exec = Jvm.exec) (hb : c.code = cc) (hK : va_K D cl tys s) (hP : va_P D cl ws H) (q0 t0 : Nat) {cA : ClassId} {n : Nat} {f : Nat → UInt32} (ha : ws[q0]? = some (a, .inl (cA, n, .inr (.inr (.inl f))))) (ht : tys[t0]? = some (cA, .float)) {i : Int32} (hout : ¬ vp_in i n) (hdg : decode cc pc = .ok (.faload, 1))
    (k : ∀ tx : String, tx = (toString "Index " ++ toString i ++ toString " out of bounds for length " ++ toString n : String) → vx_Note p l e R s m args below meth c H locs cells slots Q (F0 m pc ls rest) "java/lang/ArrayIndexOutOfBoundsException" tx) : W p l e R s m args below meth c H locs cells slots Q (F0 m pc ls (.int i :: .ref a :: rest)) := by
  intro T hT X
  obtain ⟨t, st, q⟩ := k _ rfl T hT X
  refine ⟨t, ?_, q⟩
  have h1 := X.faloadOut hexec (by rw [hT]; exact hP q0 _ ha) ((hK.2 t0 _ ht).1 n (fun j => .float (f j))) (j := i) (by show (i < 0 ∨ (arrV _ _ _).slots.size ≤ _); rw [arrV_size]; exact Classical.byContradiction hout) (g := F0 m pc ls (.int i :: .ref a :: rest)) rfl (rest := rest) rfl (by rw [hb]; exact hdg) t
  simp only [arrV_size] at h1
  exact h1 st
theorem vx_fastZ {D : va_G} {cl : List vw_C} {ws : va_W} {tys : List (ClassId × FieldType)} {a : Nat} (hexec : p.tables.exec = Jvm.exec) (hb : c.code = cc) (hK : va_K D cl tys s) (hP : va_P D cl ws H) (q0 t0 : Nat) {cA : ClassId} {n : Nat} {f : Nat → UInt32} (ha : ws[q0]? = some (a, .inl (cA, n, .inr (.inr (.inl f))))) (ht : tys[t0]? = some (cA, .float)) {i : Int32} {x : UInt32} (hout : ¬ vp_in i n) (hdg : decode cc pc = .ok (.fastore, 1))
    (k : ∀ tx : String, tx = (toString "Index " ++ toString i ++ toString " out of bounds for length " ++ toString n : String) → vx_Note p l e R s m args below meth c H locs cells slots Q (F0 m pc ls rest) "java/lang/ArrayIndexOutOfBoundsException" tx) : W p l e R s m args below meth c H locs cells slots Q (F0 m pc ls (.float x :: .int i :: .ref a :: rest)) := by
  intro T hT X
  obtain ⟨t, st, q⟩ := k _ rfl T hT X
  refine ⟨t, ?_, q⟩
  have h1 := X.fastoreOut hexec (by rw [hT]; exact hP q0 _ ha) ((hK.2 t0 _ ht).1 n (fun j => .float (f j))) (j := i) (by show (i < 0 ∨ (arrV _ _ _).slots.size ≤ _); rw [arrV_size]; exact Classical.byContradiction hout) (g := F0 m pc ls (.float x :: .int i :: .ref a :: rest)) rfl (rest := rest) rfl (by rw [hb]; exact hdg) t
  simp only [arrV_size] at h1
  exact h1 st
theorem vx_daldZ {D : va_G} {cl : List vw_C} {ws : va_W} {tys : List (ClassId × FieldType)} {a : Nat} (hexec : p.tables.exec = Jvm.exec) (hb : c.code = cc) (hK : va_K D cl tys s) (hP : va_P D cl ws H) (q0 t0 : Nat) {cA : ClassId} {n : Nat} {f : Nat → UInt64} (ha : ws[q0]? = some (a, .inl (cA, n, .inr (.inr (.inr (.inl f)))))) (ht : tys[t0]? = some (cA, .double)) {i : Int32} (hout : ¬ vp_in i n) (hdg : decode cc pc = .ok (.daload, 1))
    (k : ∀ tx : String, tx = (toString "Index " ++ toString i ++ toString " out of bounds for length " ++ toString n : String) → vx_Note p l e R s m args below meth c H locs cells slots Q (F0 m pc ls rest) "java/lang/ArrayIndexOutOfBoundsException" tx) : W p l e R s m args below meth c H locs cells slots Q (F0 m pc ls (.int i :: .ref a :: rest)) := by
  intro T hT X
  obtain ⟨t, st, q⟩ := k _ rfl T hT X
  refine ⟨t, ?_, q⟩
  have h1 := X.daloadOut hexec (by rw [hT]; exact hP q0 _ ha) ((hK.2 t0 _ ht).1 n (fun j => .double (f j))) (j := i) (by show (i < 0 ∨ (arrV _ _ _).slots.size ≤ _); rw [arrV_size]; exact Classical.byContradiction hout) (g := F0 m pc ls (.int i :: .ref a :: rest)) rfl (rest := rest) rfl (by rw [hb]; exact hdg) t
  simp only [arrV_size] at h1
  exact h1 st
theorem vx_dastZ {D : va_G} {cl : List vw_C} {ws : va_W} {tys : List (ClassId × FieldType)} {a : Nat} (hexec : p.tables.exec = Jvm.exec) (hb : c.code = cc) (hK : va_K D cl tys s) (hP : va_P D cl ws H) (q0 t0 : Nat) {cA : ClassId} {n : Nat} {f : Nat → UInt64} (ha : ws[q0]? = some (a, .inl (cA, n, .inr (.inr (.inr (.inl f)))))) (ht : tys[t0]? = some (cA, .double)) {i : Int32} {x : UInt64} (hout : ¬ vp_in i n) (hdg : decode cc pc = .ok (.dastore, 1))
    (k : ∀ tx : String, tx = (toString "Index " ++ toString i ++ toString " out of bounds for length " ++ toString n : String) → vx_Note p l e R s m args below meth c H locs cells slots Q (F0 m pc ls rest) "java/lang/ArrayIndexOutOfBoundsException" tx) : W p l e R s m args below meth c H locs cells slots Q (F0 m pc ls (.double x :: .int i :: .ref a :: rest)) := by
  intro T hT X
  obtain ⟨t, st, q⟩ := k _ rfl T hT X
  refine ⟨t, ?_, q⟩
  have h1 := X.dastoreOut hexec (by rw [hT]; exact hP q0 _ ha) ((hK.2 t0 _ ht).1 n (fun j => .double (f j))) (j := i) (by show (i < 0 ∨ (arrV _ _ _).slots.size ≤ _); rw [arrV_size]; exact Classical.byContradiction hout) (g := F0 m pc ls (.double x :: .int i :: .ref a :: rest)) rfl (rest := rest) rfl (by rw [hb]; exact hdg) t
  simp only [arrV_size] at h1
  exact h1 st
theorem vx_arraylengthN (hexec : p.tables.exec = Jvm.exec) (hb : c.code = cc) (hdg : decode cc pc = .ok (.arraylength, 1)) (k : vx_NoteN p l e R s m args below meth c H locs cells slots Q (F0 m pc ls rest)) : W p l e R s m args below meth c H locs cells slots Q (F0 m pc ls (.null :: rest)) := by
  intro T hT X
  obtain ⟨t, st, q⟩ := k T hT X
  exact ⟨t, X.arraylengthNull hexec (g := F0 m pc ls (.null :: rest)) rfl (rest := rest) rfl (by rw [hb]; exact hdg) t st, q⟩
theorem vx_ialoadN (hexec : p.tables.exec = Jvm.exec) (hb : c.code = cc) {i : Int32} (hdg : decode cc pc = .ok (.iaload, 1)) (k : vx_NoteN p l e R s m args below meth c H locs cells slots Q (F0 m pc ls rest)) : W p l e R s m args below meth c H locs cells slots Q (F0 m pc ls (.int i :: .null :: rest)) := by
  intro T hT X
  obtain ⟨t, st, q⟩ := k T hT X
  exact ⟨t, X.ialoadNull hexec (g := F0 m pc ls (.int i :: .null :: rest)) rfl (rest := rest) rfl (by rw [hb]; exact hdg) t st, q⟩
theorem vx_laloadN (hexec : p.tables.exec = Jvm.exec) (hb : c.code = cc) {i : Int32} (hdg : decode cc pc = .ok (.laload, 1)) (k : vx_NoteN p l e R s m args below meth c H locs cells slots Q (F0 m pc ls rest)) : W p l e R s m args below meth c H locs cells slots Q (F0 m pc ls (.int i :: .null :: rest)) := by
  intro T hT X
  obtain ⟨t, st, q⟩ := k T hT X
  exact ⟨t, X.laloadNull hexec (g := F0 m pc ls (.int i :: .null :: rest)) rfl (rest := rest) rfl (by rw [hb]; exact hdg) t st, q⟩
theorem vx_faloadN (hexec : p.tables.exec = Jvm.exec) (hb : c.code = cc) {i : Int32} (hdg : decode cc pc = .ok (.faload, 1)) (k : vx_NoteN p l e R s m args below meth c H locs cells slots Q (F0 m pc ls rest)) : W p l e R s m args below meth c H locs cells slots Q (F0 m pc ls (.int i :: .null :: rest)) := by
  intro T hT X
  obtain ⟨t, st, q⟩ := k T hT X
  exact ⟨t, X.faloadNull hexec (g := F0 m pc ls (.int i :: .null :: rest)) rfl (rest := rest) rfl (by rw [hb]; exact hdg) t st, q⟩
theorem vx_daloadN (hexec : p.tables.exec = Jvm.exec) (hb : c.code = cc) {i : Int32} (hdg : decode cc pc = .ok (.daload, 1)) (k : vx_NoteN p l e R s m args below meth c H locs cells slots Q (F0 m pc ls rest)) : W p l e R s m args below meth c H locs cells slots Q (F0 m pc ls (.int i :: .null :: rest)) := by
  intro T hT X
  obtain ⟨t, st, q⟩ := k T hT X
  exact ⟨t, X.daloadNull hexec (g := F0 m pc ls (.int i :: .null :: rest)) rfl (rest := rest) rfl (by rw [hb]; exact hdg) t st, q⟩
theorem vx_aaloadN (hexec : p.tables.exec = Jvm.exec) (hb : c.code = cc) {i : Int32} (hdg : decode cc pc = .ok (.aaload, 1)) (k : vx_NoteN p l e R s m args below meth c H locs cells slots Q (F0 m pc ls rest)) : W p l e R s m args below meth c H locs cells slots Q (F0 m pc ls (.int i :: .null :: rest)) := by
  intro T hT X
  obtain ⟨t, st, q⟩ := k T hT X
  exact ⟨t, X.aaloadNull hexec (g := F0 m pc ls (.int i :: .null :: rest)) rfl (rest := rest) rfl (by rw [hb]; exact hdg) t st, q⟩
theorem vx_baloadN (hexec : p.tables.exec = Jvm.exec) (hb : c.code = cc) {i : Int32} (hdg : decode cc pc = .ok (.baload, 1)) (k : vx_NoteN p l e R s m args below meth c H locs cells slots Q (F0 m pc ls rest)) : W p l e R s m args below meth c H locs cells slots Q (F0 m pc ls (.int i :: .null :: rest)) := by
  intro T hT X
  obtain ⟨t, st, q⟩ := k T hT X
  exact ⟨t, X.baloadNull hexec (g := F0 m pc ls (.int i :: .null :: rest)) rfl (rest := rest) rfl (by rw [hb]; exact hdg) t st, q⟩
theorem vx_caloadN (hexec : p.tables.exec = Jvm.exec) (hb : c.code = cc) {i : Int32} (hdg : decode cc pc = .ok (.caload, 1)) (k : vx_NoteN p l e R s m args below meth c H locs cells slots Q (F0 m pc ls rest)) : W p l e R s m args below meth c H locs cells slots Q (F0 m pc ls (.int i :: .null :: rest)) := by
  intro T hT X
  obtain ⟨t, st, q⟩ := k T hT X
  exact ⟨t, X.caloadNull hexec (g := F0 m pc ls (.int i :: .null :: rest)) rfl (rest := rest) rfl (by rw [hb]; exact hdg) t st, q⟩
theorem vx_saloadN (hexec : p.tables.exec = Jvm.exec) (hb : c.code = cc) {i : Int32} (hdg : decode cc pc = .ok (.saload, 1)) (k : vx_NoteN p l e R s m args below meth c H locs cells slots Q (F0 m pc ls rest)) : W p l e R s m args below meth c H locs cells slots Q (F0 m pc ls (.int i :: .null :: rest)) := by
  intro T hT X
  obtain ⟨t, st, q⟩ := k T hT X
  exact ⟨t, X.saloadNull hexec (g := F0 m pc ls (.int i :: .null :: rest)) rfl (rest := rest) rfl (by rw [hb]; exact hdg) t st, q⟩
theorem vx_iastoreN (hexec : p.tables.exec = Jvm.exec) (hb : c.code = cc) {x : Int32} {i : Int32} (hdg : decode cc pc = .ok (.iastore, 1)) (k : vx_NoteN p l e R s m args below meth c H locs cells slots Q (F0 m pc ls rest)) : W p l e R s m args below meth c H locs cells slots Q (F0 m pc ls (.int x :: .int i :: .null :: rest)) := by
  intro T hT X
  obtain ⟨t, st, q⟩ := k T hT X
  exact ⟨t, X.iastoreNull hexec (g := F0 m pc ls (.int x :: .int i :: .null :: rest)) rfl (rest := rest) rfl (by rw [hb]; exact hdg) t st, q⟩
theorem vx_lastoreN (hexec : p.tables.exec = Jvm.exec) (hb : c.code = cc) {x : Int64} {i : Int32} (hdg : decode cc pc = .ok (.lastore, 1)) (k : vx_NoteN p l e R s m args below meth c H locs cells slots Q (F0 m pc ls rest)) : W p l e R s m args below meth c H locs cells slots Q (F0 m pc ls (.long x :: .int i :: .null :: rest)) := by
  intro T hT X
  obtain ⟨t, st, q⟩ := k T hT X
  exact ⟨t, X.lastoreNull hexec (g := F0 m pc ls (.long x :: .int i :: .null :: rest)) rfl (rest := rest) rfl (by rw [hb]; exact hdg) t st, q⟩
theorem vx_fastoreN (hexec : p.tables.exec = Jvm.exec) (hb : c.code = cc) {x : UInt32} {i : Int32} (hdg : decode cc pc = .ok (.fastore, 1)) (k : vx_NoteN p l e R s m args below meth c H locs cells slots Q (F0 m pc ls rest)) : W p l e R s m args below meth c H locs cells slots Q (F0 m pc ls (.float x :: .int i :: .null :: rest)) := by
  intro T hT X
  obtain ⟨t, st, q⟩ := k T hT X
  exact ⟨t, X.fastoreNull hexec (g := F0 m pc ls (.float x :: .int i :: .null :: rest)) rfl (rest := rest) rfl (by rw [hb]; exact hdg) t st, q⟩
theorem vx_dastoreN (hexec : p.tables.exec = Jvm.exec) (hb : c.code = cc) {x : UInt64} {i : Int32} (hdg : decode cc pc = .ok (.dastore, 1)) (k : vx_NoteN p l e R s m args below meth c H locs cells slots Q (F0 m pc ls rest)) : W p l e R s m args below meth c H locs cells slots Q (F0 m pc ls (.double x :: .int i :: .null :: rest)) := by
  intro T hT X
  obtain ⟨t, st, q⟩ := k T hT X
  exact ⟨t, X.dastoreNull hexec (g := F0 m pc ls (.double x :: .int i :: .null :: rest)) rfl (rest := rest) rfl (by rw [hb]; exact hdg) t st, q⟩
theorem vx_bastoreN (hexec : p.tables.exec = Jvm.exec) (hb : c.code = cc) {x : Int32} {i : Int32} (hdg : decode cc pc = .ok (.bastore, 1)) (k : vx_NoteN p l e R s m args below meth c H locs cells slots Q (F0 m pc ls rest)) : W p l e R s m args below meth c H locs cells slots Q (F0 m pc ls (.int x :: .int i :: .null :: rest)) := by
  intro T hT X
  obtain ⟨t, st, q⟩ := k T hT X
  exact ⟨t, X.bastoreNull hexec (g := F0 m pc ls (.int x :: .int i :: .null :: rest)) rfl (rest := rest) rfl (by rw [hb]; exact hdg) t st, q⟩
theorem vx_castoreN (hexec : p.tables.exec = Jvm.exec) (hb : c.code = cc) {x : Int32} {i : Int32} (hdg : decode cc pc = .ok (.castore, 1)) (k : vx_NoteN p l e R s m args below meth c H locs cells slots Q (F0 m pc ls rest)) : W p l e R s m args below meth c H locs cells slots Q (F0 m pc ls (.int x :: .int i :: .null :: rest)) := by
  intro T hT X
  obtain ⟨t, st, q⟩ := k T hT X
  exact ⟨t, X.castoreNull hexec (g := F0 m pc ls (.int x :: .int i :: .null :: rest)) rfl (rest := rest) rfl (by rw [hb]; exact hdg) t st, q⟩
theorem vx_sastoreN (hexec : p.tables.exec = Jvm.exec) (hb : c.code = cc) {x : Int32} {i : Int32} (hdg : decode cc pc = .ok (.sastore, 1)) (k : vx_NoteN p l e R s m args below meth c H locs cells slots Q (F0 m pc ls rest)) : W p l e R s m args below meth c H locs cells slots Q (F0 m pc ls (.int x :: .int i :: .null :: rest)) := by
  intro T hT X
  obtain ⟨t, st, q⟩ := k T hT X
  exact ⟨t, X.sastoreNull hexec (g := F0 m pc ls (.int x :: .int i :: .null :: rest)) rfl (rest := rest) rfl (by rw [hb]; exact hdg) t st, q⟩
theorem vx_invokeN {own C : String} {index maxL : Nat} {y : MethodName} {bytes : ByteArray} {ret : Option FieldType} (hexec : p.tables.exec = Jvm.exec) (hb : c.code = cc) (hown : s.vm.findClass own = some m.cls) (hlink : (Cond.methodLink own index y).before args s = true) (hinst : (Cond.instanceMethod y).before args s = true) (hcode : (Cond.code y bytes maxL ret).before args s = true) (hsel : (Cond.selects C y y).before args s = true)
    (hx : y.cls ≠ "java/lang/invoke/MethodHandle" ∧ y.cls ≠ "java/lang/invoke/VarHandle") {As : List Value} (hlen : (parseMethodDescriptor y.desc).map (fun d => d.parameters.length) = some As.length) (hdg : decode cc pc = .ok (.invokevirtual index, 3))
    (k : vx_NoteN p l e R s m args below meth c H locs cells slots Q (F0 m pc ls rest)) {st0 : List Value} (hst : st0 = As.reverse ++ .null :: rest) : W p l e R s m args below meth c H locs cells slots Q (F0 m pc ls st0) := by
  intro T hT X
  obtain ⟨r0, r, hn, hrm, hstR, hsigR⟩ := va_Decl.of hinst hcode
  obtain ⟨c2, r2, m2, q1, q2, q3, q4, kP, hkP, hkPi⟩ := Cond.selects_spec hsel
  cases hn.symm.trans q3
  have hl9 : As.length = r.sig.parameters.length := by
    rw [hsigR] at hlen
    exact (Option.some.inj hlen).symm
  obtain ⟨vm', X1, st1⟩ := X.invokevirtualNull hexec hown hlink hn hrm hstR hkP hkPi hx (g := F0 m pc ls st0) rfl (argsL := As) (rest := rest) hl9 hst (by rw [hb]; exact hdg)
  obtain ⟨t, st, q⟩ := k (T.setVm vm') hT X1
  exact ⟨t, st1 t st, q⟩
theorem vx_newarrayZ {atype : ArrayType} (hexec : p.tables.exec = Jvm.exec) (hb : c.code = cc) {n : Int32} (h0 : n < 0) (hdg : decode cc pc = .ok (.newarray atype, 2)) (k : ∀ tx : String, tx = toString n → vx_Note p l e R s m args below meth c H locs cells slots Q (F0 m pc ls rest) "java/lang/NegativeArraySizeException" tx) : W p l e R s m args below meth c H locs cells slots Q (F0 m pc ls (.int n :: rest)) := by
  intro T hT X
  obtain ⟨t, st, q⟩ := k _ rfl T hT X
  exact ⟨t, X.newarrayNegative hexec (g := F0 m pc ls (.int n :: rest)) rfl h0 (rest := rest) rfl (by rw [hb]; exact hdg) t st, q⟩
end
end VXM
/-! ===== END ===== -/
end
section
/-! THE SMALL HEAP: a list of cells, addresses counted from the law's start; its judgement JJ; a row for each instruction -/
abbrev mE : Type := (Nat × vp_A) ⊕ (Nat × List Value)
abbrev Mem : Type := List mE
/-- the world: the heap at the law's start, the addresses of the string constants, the array classes, the classes -/
abbrev Wd : Type := Heap × (Nat → Nat) × (Nat → ClassId) × va_G
def wz (ω : Wd) : Nat := ω.1.size
def sh (ω : Wd) : Value → Value
  | .ref a => .ref (wz ω + a)
  | .float j => if j.toNat = 200 then va_rf (if ω.2.1 200 = 0 then none else some (ω.2.1 200 - 1)) else .ref (ω.2.1 j.toNat)
  | v => v
def shA (ω : Wd) : vp_A → vp_A
  | (n, .inr (.inr (.inr (.inr f)))) => (n, .inr (.inr (.inr (.inr (fun j => (f j).map (fun a => wz ω + a))))))
  | a => a
def shE (ω : Wd) : mE → va_E
  | .inl (t, a) => .inl (ω.2.2.1 t, shA ω a)
  | .inr (c, fs) => .inr (c, fs.map (sh ω))
def toW (ω : Wd) (M : Mem) : va_W := M.mapIdx (fun i e => (wz ω + i, shE ω e))
def shL (ω : Wd) (lv : List (Nat × Value)) : List (Nat × Value) := lv.map (fun q => (q.1, sh ω q.2))
abbrev ty_L (ω : Wd) : List (ClassId × FieldType) := [(ω.2.2.1 0, .int), (ω.2.2.1 1, .long), (ω.2.2.1 2, .byte), (ω.2.2.1 3, .boolean), (ω.2.2.1 4, .object "CoinSorter$State")]
abbrev mA (ω : Wd) : Nat → Prop := fun q => wz ω ≤ q
/-- the words of the configuration's text, as string constants: lengths, bytes, where they are loaded; behind them the messages -/
def st_len : List Nat := [4, 4, 3, 4, 4, 6]
def st_byt : List (List Int32) := [[116, 121, 112, 101], [102, 97, 107, 101], [98, 105, 110], [103, 97, 116, 101], [108, 111, 111, 112], [109, 97, 114, 103, 105, 110]]
def st_L : List (String × Nat × String × Nat) := [("CoinSorter$Parser", 41, "type", 0), ("CoinSorter$Parser", 57, "fake", 1), ("CoinSorter$Parser", 62, "bin", 2), ("CoinSorter$Parser", 68, "gate", 3), ("CoinSorter$Parser", 80, "loop", 4), ("CoinSorter$Parser", 85, "margin", 5), ("CoinSorterModel", 129, "type", 0), ("CoinSorterModel", 139, "fake", 1), ("CoinSorterModel", 141, "bin", 2), ("CoinSorterModel", 143, "gate", 3), ("CoinSorterModel", 149, "loop", 4), ("CoinSorterModel", 151, "margin", 5), ("CoinSorter", 145, "no such type", 6), ("CoinSorter", 156, "measurement out of range", 7), ("CoinSorter", 327, "no such bag", 8), ("CoinSorter", 329, "counted out of range", 9), ("CoinSorter", 333, "audited before", 10)]
def sfv (ω : Wd) : Value := va_rf (if ω.2.1 200 = 0 then none else some (ω.2.1 200 - 1))
def KW (ω : Wd) (U : State) : Prop := va_K ω.2.2.2 cl_L (ty_L ω) U ∧ (∀ w ∈ ns_L, va_Nw w U) ∧ va_AO "CoinSorter$State" U ∧ vk_S 6 st_len st_byt ω.2.1 (fun i => ω.2.1 (100 + i)) (mA ω) U ω.1 ∧ (∀ q ∈ st_L, vk_R q.1 q.2.1 q.2.2.1 (ω.2.1 q.2.2.2) U) ∧ vx_Zq Bundle.tN "UNASSIGNED_STACK" Bundle.steD (mA ω) U ω.1 ∧ vx_Zq Bundle.tN "SUPPRESSED_SENTINEL" Bundle.listD (mA ω) U ω.1 ∧ va_Z "java/lang/String" "COMPACT_STRINGS" "Z" (.int 1) (mA ω) U ω.1 ∧ va_Z "jdk/internal/util/Preconditions" "SIOOBE_FORMATTER" "Ljava/util/function/BiFunction;" (sfv ω) (mA ω) U ω.1
theorem sh_cat (ω : Wd) (v : Value) : (sh ω v).category = v.category := by
  cases v with
  | float j =>
    show (if j.toNat = 200 then va_rf (if ω.2.1 200 = 0 then none else some (ω.2.1 200 - 1)) else .ref (ω.2.1 j.toNat)).category = 1
    split
    · split <;> rfl
    · rfl
  | _ => rfl
theorem toW_at {ω : Wd} {M : Mem} {a : Nat} {e : mE} (h : M[a]? = some e) : (toW ω M)[a]? = some (wz ω + a, shE ω e) := by
  simp [toW, List.getElem?_mapIdx, h]
theorem toW_inv {ω : Wd} {M : Mem} {a : Nat} {q : Nat × va_E} (h : (toW ω M)[a]? = some q) : ∃ e, M[a]? = some e ∧ q = (wz ω + a, shE ω e) := by
  simp only [toW, List.getElem?_mapIdx, Option.map_eq_some_iff] at h
  obtain ⟨e, h1, h2⟩ := h
  exact ⟨e, h1, h2.symm⟩
theorem toW_set {ω : Wd} {M : Mem} {a : Nat} {e : mE} : (toW ω M).set a (wz ω + a, shE ω e) = toW ω (M.set a e) := by
  apply List.ext_getElem?
  intro i
  by_cases h : a = i
  · subst h
    simp only [toW, List.getElem?_set, List.getElem?_mapIdx, List.length_mapIdx]
    by_cases h2 : a < M.length
    · simp [h2]
    · simp [h2]
  · simp [toW, List.getElem?_set, List.getElem?_mapIdx, h]
theorem toW_app {ω : Wd} {M : Mem} {e : mE} : toW ω (M ++ [e]) = toW ω M ++ [(wz ω + M.length, shE ω e)] := by
  simp [toW, List.mapIdx_append]
theorem toW_D {ω : Wd} {M : Mem} : va_D (mA ω) (toW ω M) := by
  refine ⟨fun i j p q hi hj hpq => ?_, fun k q hk => ?_⟩
  · obtain ⟨e1, -, rfl⟩ := toW_inv hi
    obtain ⟨e2, -, rfl⟩ := toW_inv hj
    have : wz ω + i = wz ω + j := hpq
    omega
  · obtain ⟨e1, -, rfl⟩ := toW_inv hk
    exact Nat.le_add_right _ _
theorem shL_at {ω : Wd} {lv : List (Nat × Value)} {j : Nat} {q : Nat × Value} (h : lv[j]? = some q) : (shL ω lv)[j]? = some (q.1, sh ω q.2) := by
  simp [shL, h]
theorem shL_filter1 {ω : Wd} {i : Nat} {v : Value} {lv : List (Nat × Value)} : (i, sh ω v) :: (shL ω lv).filter (fun q => !(q.1 == i) && !(q.1 + 1 == i && q.2.category == 2)) = shL ω ((i, v) :: lv.filter (fun q => !(q.1 == i) && !(q.1 + 1 == i && q.2.category == 2))) := by
  simp only [shL, List.map_cons, List.filter_map]
  congr 2
  apply List.filter_congr
  intro q _
  simp [Function.comp, sh_cat]
theorem shL_filter2 {ω : Wd} {i : Nat} {v : Value} {lv : List (Nat × Value)} : (i, sh ω v) :: (shL ω lv).filter (fun q => !(q.1 == i) && (!(q.1 == i + 1) && !(q.1 + 1 == i && q.2.category == 2))) = shL ω ((i, v) :: lv.filter (fun q => !(q.1 == i) && (!(q.1 == i + 1) && !(q.1 + 1 == i && q.2.category == 2)))) := by
  simp only [shL, List.map_cons, List.filter_map]
  congr 2
  apply List.filter_congr
  intro q _
  simp [Function.comp, sh_cat]
theorem shL_pick {ω : Wd} {lv : List (Nat × Value)} {ks : List Nat} : lv_pick (shL ω lv) ks = shL ω (lv_pick lv ks) := by
  simp only [lv_pick, shL, List.map_filterMap]
  congr 1
  funext k
  simp
theorem shL_args {ω : Wd} : ∀ (vs : List Value) (i : Nat), lv_args i (vs.map (sh ω)) = shL ω (lv_args i vs)
  | [], _ => rfl
  | v :: vs, i => by
    simp only [List.map_cons, lv_args, shL, sh_cat]
    congr 1
    exact shL_args vs _
theorem KW.nest {s U : State} (hW : s.WarmedH U.vm) (h : ∀ w ∈ ns_L, va_Nw w s) : ∀ w ∈ ns_L, va_Nw w U := fun w hw => by
  have h1 := h w hw
  have h2 := (List.mem_filter.mp hw).2
  cases w <;> first | exact va_Nw.warmF hW h1 | exact va_Nw.warmM hW h1 | exact va_Nw.warmC hW h1 | exact va_Nw.warmD hW h1 | (simp [jv_isNest] at h2)
theorem KW.warm {ω : Wd} {s U : State} (h : KW ω s) (hW : s.WarmedH U.vm) : KW ω U := by
  obtain ⟨h1, h2, h3, h4, h5, h6, h7, h8, h9⟩ := h
  exact ⟨h1.moved hW.alike, KW.nest hW h2, h3.moved hW.alike, h4.moved hW.alike, fun q hq => (h5 q hq).warm hW, h6.moved hW.alike, h7.moved hW.alike, h8.moved hW.alike, h9.moved hW.alike⟩
theorem KW.calling {ω : Wd} {U : State} {g : JFrame} {mk : MethodId} {a : Array Value} (h : KW ω U) : KW ω (U.calling g mk a) := by
  obtain ⟨h1, h2, h3, h4, h5, h6, h7, h8, h9⟩ := h
  have hA : U.vm.Alike (U.calling g mk a).vm := Vm.Alike.refl U.vm
  refine ⟨h1.moved hA, fun w hw => ?_, h3.moved hA, h4.moved hA, fun q hq => vk_R.same (u := U) rfl (h5 q hq), h6.moved hA, h7.moved hA, h8.moved hA, h9.moved hA⟩
  have h1 := h2 w hw
  have h2 := (List.mem_filter.mp hw).2
  refine va_Nw.same (u := U) (U := U.calling g mk a) ?_ rfl h1
  cases w <;> first | rfl | (simp [jv_isNest] at h2)
/-! reading and writing the small heap -/
def mm_gV (M : Mem) (a ci j : Nat) : Option Value := match M[a]? with
  | some (.inr (c, fs)) => if c = ci then fs[j]? else none
  | _ => none
def mm_gI (M : Mem) (a ci j : Nat) : Option Int32 := match mm_gV M a ci j with
  | some (.int v) => some v
  | _ => none
def mm_gL (M : Mem) (a ci j : Nat) : Option Int64 := match mm_gV M a ci j with
  | some (.long v) => some v
  | _ => none
def mm_gR (M : Mem) (a ci j : Nat) : Option Nat := match mm_gV M a ci j with
  | some (.ref v) => some v
  | _ => none
def mm_ck (M : Mem) (a ci : Nat) : Option Unit := match M[a]? with
  | some (.inr (c, _)) => if c = ci then some () else none
  | _ => none
def mm_pV (M : Mem) (a ci j : Nat) (v : Value) : Option Mem := match M[a]? with
  | some (.inr (c, fs)) => if c = ci ∧ j < fs.length then some (M.set a (.inr (c, fs.set j v))) else none
  | _ => none
def mm_pZ (M : Mem) (a ci j : Nat) (v : Int32) : Option Mem := if v = 0 ∨ v = 1 then mm_pV M a ci j (.int v) else none
def mm_aN (M : Mem) (a : Nat) : Option Int32 := match M[a]? with
  | some (.inl (t, n, _)) => if t < 5 then some (Int32.ofNat n) else none
  | _ => none
def mm_aI (M : Mem) (a t : Nat) (i : Int32) : Option Int32 := match M[a]? with
  | some (.inl (t', n, .inl f)) => if t' = t ∧ ¬ (i < 0 ∨ n ≤ i.toNatClampNeg) then some (f i.toNatClampNeg) else none
  | _ => none
def mm_aL (M : Mem) (a : Nat) (i : Int32) : Option Int64 := match M[a]? with
  | some (.inl (t', n, .inr (.inl f))) => if t' = 1 ∧ ¬ (i < 0 ∨ n ≤ i.toNatClampNeg) then some (f i.toNatClampNeg) else none
  | _ => none
def mm_aR (M : Mem) (a : Nat) (i : Int32) : Option Nat := match M[a]? with
  | some (.inl (t', n, .inr (.inr (.inr (.inr f))))) => if t' = 4 ∧ ¬ (i < 0 ∨ n ≤ i.toNatClampNeg) then f i.toNatClampNeg else none
  | _ => none
def mm_sI (M : Mem) (a t : Nat) (i x : Int32) : Option Mem := match M[a]? with
  | some (.inl (t', n, .inl f)) => if t' = t ∧ ¬ (i < 0 ∨ n ≤ i.toNatClampNeg) then some (M.set a (.inl (t', n, .inl (upd f i.toNatClampNeg x)))) else none
  | _ => none
def mm_sL (M : Mem) (a : Nat) (i : Int32) (x : Int64) : Option Mem := match M[a]? with
  | some (.inl (t', n, .inr (.inl f))) => if t' = 1 ∧ ¬ (i < 0 ∨ n ≤ i.toNatClampNeg) then some (M.set a (.inl (t', n, .inr (.inl (vp_updL f i.toNatClampNeg x))))) else none
  | _ => none
def mm_sR (M : Mem) (a : Nat) (i : Int32) (v : Nat) : Option Mem := match M[a]? with
  | some (.inl (t', n, .inr (.inr (.inr (.inr f))))) => if t' = 4 ∧ ¬ (i < 0 ∨ n ≤ i.toNatClampNeg) then (mm_ck M v 7).map (fun _ => M.set a (.inl (t', n, .inr (.inr (.inr (.inr (va_up f i.toNatClampNeg (some v)))))))) else none
  | _ => none
def mm_cp (M : Mem) (a0 : Nat) (sp : Int32) (a : Nat) (dp n : Int32) : Option Mem := match M[a0]?, M[a]? with
  | some (.inl (t0, n0, .inl f)), some (.inl (t1, n1, .inl g)) => if t0 = 0 ∧ t1 = 0 ∧ ¬ sp < 0 ∧ ¬ dp < 0 ∧ ¬ n < 0 ∧ sp.toNatClampNeg + n.toNatClampNeg ≤ n0 ∧ dp.toNatClampNeg + n.toNatClampNeg ≤ n1 then some (M.set a (.inl (t1, n1, .inl (va_cpy f g sp.toNatClampNeg dp.toNatClampNeg n.toNatClampNeg)))) else none
  | _, _ => none
def mm_dI (x y : Int32) : Option Int32 := if y = 0 then none else some (x / y)
def mm_rI (x y : Int32) : Option Int32 := if y = 0 then none else some (x - x / y * y)
def mm_dL (x y : Int64) : Option Int64 := if y = 0 then none else some (x / y)
def mm_rL (x y : Int64) : Option Int64 := if y = 0 then none else some (x - x / y * y)
def mm_nA (M : Mem) (lim : Nat) (n : Int32) (e : Nat → mE) : Option (Nat × Mem) := if n < 0 ∨ lim < n.toNatClampNeg then none else some (M.length, M ++ [e n.toNatClampNeg])
theorem mm_gV_spec {M : Mem} {a ci j : Nat} {v : Value} (h : mm_gV M a ci j = some v) : ∃ fs, M[a]? = some (.inr (ci, fs)) ∧ fs[j]? = some v := by
  unfold mm_gV at h
  split at h
  · rename_i c fs heq
    split at h
    · rename_i hc; subst hc; exact ⟨fs, heq, h⟩
    · cases h
  · cases h
theorem mm_gI_spec {M : Mem} {a ci j : Nat} {v : Int32} (h : mm_gI M a ci j = some v) : mm_gV M a ci j = some (.int v) := by
  unfold mm_gI at h
  split at h
  · rename_i x heq; cases h; exact heq
  · cases h
theorem mm_gL_spec {M : Mem} {a ci j : Nat} {v : Int64} (h : mm_gL M a ci j = some v) : mm_gV M a ci j = some (.long v) := by
  unfold mm_gL at h
  split at h
  · rename_i x heq; cases h; exact heq
  · cases h
theorem mm_gR_spec {M : Mem} {a ci j : Nat} {v : Nat} (h : mm_gR M a ci j = some v) : mm_gV M a ci j = some (.ref v) := by
  unfold mm_gR at h
  split at h
  · rename_i x heq; cases h; exact heq
  · cases h
theorem mm_ck_spec {M : Mem} {a ci : Nat} {u : Unit} (h : mm_ck M a ci = some u) : ∃ fs, M[a]? = some (.inr (ci, fs)) := by
  unfold mm_ck at h
  split at h
  · rename_i c fs heq
    split at h
    · rename_i hc; subst hc; exact ⟨fs, heq⟩
    · cases h
  · cases h
theorem mm_pV_spec {M M' : Mem} {a ci j : Nat} {v : Value} (h : mm_pV M a ci j v = some M') : ∃ fs, M[a]? = some (.inr (ci, fs)) ∧ j < fs.length ∧ M' = M.set a (.inr (ci, fs.set j v)) := by
  unfold mm_pV at h
  split at h
  · rename_i c fs heq
    split at h
    · rename_i hc; obtain ⟨rfl, hj⟩ := hc; cases h; exact ⟨fs, heq, hj, rfl⟩
    · cases h
  · cases h
theorem mm_aN_spec {M : Mem} {a : Nat} {v : Int32} (h : mm_aN M a = some v) : ∃ t n f, M[a]? = some (.inl (t, n, f)) ∧ t < 5 ∧ Int32.ofNat n = v := by
  unfold mm_aN at h
  split at h
  · rename_i t n f heq
    split at h
    · rename_i ht; cases h; exact ⟨t, n, f, heq, ht, rfl⟩
    · cases h
  · cases h
theorem mm_aI_spec {M : Mem} {a t : Nat} {i v : Int32} (h : mm_aI M a t i = some v) : ∃ n f, M[a]? = some (.inl (t, n, .inl f)) ∧ vp_in i n ∧ f i.toNatClampNeg = v := by
  unfold mm_aI at h
  split at h
  · rename_i t' n f heq
    split at h
    · rename_i hc; obtain ⟨rfl, hi⟩ := hc; cases h; exact ⟨n, f, heq, hi, rfl⟩
    · cases h
  · cases h
theorem mm_aL_spec {M : Mem} {a : Nat} {i : Int32} {v : Int64} (h : mm_aL M a i = some v) : ∃ n f, M[a]? = some (.inl (1, n, .inr (.inl f))) ∧ vp_in i n ∧ f i.toNatClampNeg = v := by
  unfold mm_aL at h
  split at h
  · rename_i t' n f heq
    split at h
    · rename_i hc; obtain ⟨rfl, hi⟩ := hc; cases h; exact ⟨n, f, heq, hi, rfl⟩
    · cases h
  · cases h
theorem mm_aR_spec {M : Mem} {a : Nat} {i : Int32} {v : Nat} (h : mm_aR M a i = some v) : ∃ n f, M[a]? = some (.inl (4, n, .inr (.inr (.inr (.inr f))))) ∧ vp_in i n ∧ f i.toNatClampNeg = some v := by
  unfold mm_aR at h
  split at h
  · rename_i t' n f heq
    split at h
    · rename_i hc; obtain ⟨rfl, hi⟩ := hc; exact ⟨n, f, heq, hi, h⟩
    · cases h
  · cases h
theorem mm_sI_spec {M M' : Mem} {a t : Nat} {i x : Int32} (h : mm_sI M a t i x = some M') : ∃ n f, M[a]? = some (.inl (t, n, .inl f)) ∧ vp_in i n ∧ M' = M.set a (.inl (t, n, .inl (upd f i.toNatClampNeg x))) := by
  unfold mm_sI at h
  split at h
  · rename_i t' n f heq
    split at h
    · rename_i hc; obtain ⟨rfl, hi⟩ := hc; cases h; exact ⟨n, f, heq, hi, rfl⟩
    · cases h
  · cases h
theorem mm_sL_spec {M M' : Mem} {a : Nat} {i : Int32} {x : Int64} (h : mm_sL M a i x = some M') : ∃ n f, M[a]? = some (.inl (1, n, .inr (.inl f))) ∧ vp_in i n ∧ M' = M.set a (.inl (1, n, .inr (.inl (vp_updL f i.toNatClampNeg x)))) := by
  unfold mm_sL at h
  split at h
  · rename_i t' n f heq
    split at h
    · rename_i hc; obtain ⟨rfl, hi⟩ := hc; cases h; exact ⟨n, f, heq, hi, rfl⟩
    · cases h
  · cases h
theorem mm_sR_spec {M M' : Mem} {a : Nat} {i : Int32} {v : Nat} (h : mm_sR M a i v = some M') : ∃ n f fs, M[a]? = some (.inl (4, n, .inr (.inr (.inr (.inr f))))) ∧ vp_in i n ∧ M[v]? = some (.inr (7, fs)) ∧ M' = M.set a (.inl (4, n, .inr (.inr (.inr (.inr (va_up f i.toNatClampNeg (some v))))))) := by
  unfold mm_sR at h
  split at h
  · rename_i t' n f heq
    split at h
    · rename_i hc; obtain ⟨rfl, hi⟩ := hc
      obtain ⟨u, h1, h2⟩ := Option.map_eq_some_iff.mp h
      obtain ⟨fs, h3⟩ := mm_ck_spec h1
      exact ⟨n, f, fs, heq, hi, h3, h2.symm⟩
    · cases h
  · cases h
theorem mm_cp_spec {M M' : Mem} {a0 a : Nat} {sp dp n : Int32} (h : mm_cp M a0 sp a dp n = some M') : ∃ n0 f n1 g, M[a0]? = some (.inl (0, n0, .inl f)) ∧ M[a]? = some (.inl (0, n1, .inl g)) ∧ ¬ sp < 0 ∧ ¬ dp < 0 ∧ ¬ n < 0 ∧ sp.toNatClampNeg + n.toNatClampNeg ≤ n0 ∧ dp.toNatClampNeg + n.toNatClampNeg ≤ n1 ∧ M' = M.set a (.inl (0, n1, .inl (va_cpy f g sp.toNatClampNeg dp.toNatClampNeg n.toNatClampNeg))) := by
  unfold mm_cp at h
  split at h
  · rename_i t0 n0 f t1 n1 g h1 h2
    split at h
    · rename_i hc; obtain ⟨rfl, rfl, c1, c2, c3, c4, c5⟩ := hc; cases h; exact ⟨n0, f, n1, g, h1, h2, c1, c2, c3, c4, c5, rfl⟩
    · cases h
  · cases h
/-! the judgement -/
abbrev Gm : Type := Program × Launch × Env × Room × State × MethodId × Array Value × List Frame × Method × Code
abbrev Gm.s (Γ : Gm) : State := Γ.2.2.2.2.1
abbrev Gm.m (Γ : Gm) : MethodId := Γ.2.2.2.2.2.1
abbrev Gm.args (Γ : Gm) : Array Value := Γ.2.2.2.2.2.2.1
abbrev Gm.below (Γ : Gm) : List Frame := Γ.2.2.2.2.2.2.2.1
abbrev Gm.meth (Γ : Gm) : Method := Γ.2.2.2.2.2.2.2.2.1
abbrev Gm.c (Γ : Gm) : Code := Γ.2.2.2.2.2.2.2.2.2
def WW (Γ : Gm) (H : Heap) (locs : List Loc) (ce sl : Nat) (Q : State → Prop) (g : JFrame) : Prop := W Γ.1 Γ.2.1 Γ.2.2.1 Γ.2.2.2.1 Γ.s Γ.m Γ.args Γ.below Γ.meth Γ.c H locs ce sl Q g
def JJ (Γ : Gm) (Q : State → Prop) (nL : Nat) (ω : Wd) (k : Nat) (M : Mem) (ce sl pc : Nat) (lv : List (Nat × Value)) (st : List Value) : Prop :=
  ∀ (H : Heap) (locs : List Loc) (ls : Array Slot), lv_has ls nL (shL ω lv) → va_P ω.2.2.2 cl_L (toW ω M) H → H.size = wz ω + M.length + k → va_S (mA ω) Γ.s.heap H locs → W Γ.1 Γ.2.1 Γ.2.2.1 Γ.2.2.2.1 Γ.s Γ.m Γ.args Γ.below Γ.meth Γ.c H locs ce sl Q (F0 Γ.m pc ls (st.map (sh ω)))
def rm_ (h mc ms : Nat) : Room := { frames := h, cells := mc, slots := ms, locals := 100 * h }
/-- what stands at every instruction of a method -/
def Cx (Γ : Gm) (cc : ByteArray) (nL : Nat) (own : String) (ω : Wd) (h mT sT : Nat) : Prop :=
  Γ.1.tables.exec = Jvm.exec ∧ Γ.c.code = cc ∧ Γ.c.maxLocals = nL ∧ Γ.s.vm.findClass own = some Γ.m.cls ∧ (∀ w ∈ gd_L, w.before Γ.args Γ.s = true) ∧ KW ω Γ.s ∧ Γ.meth.locks = false ∧ (wz ω ≤ Γ.s.heap.size ∧ ∀ q, q < wz ω → Γ.s.heap[q]? = ω.1[q]?) ∧ Γ.2.2.2.1 = rm_ h mT sT
section JV
variable {Γ : Gm} {Q : State → Prop} {nL k : Nat} {ω : Wd} {M : Mem} {ce sl pc : Nat} {lv : List (Nat × Value)} {st : List Value} {cc : ByteArray} {own : String} {hh mT sT : Nat} {ρ : Type} {res : ρ}
theorem jv_sub (ks : List Nat) {lv' : List (Nat × Value)} (hl : lv_pick lv ks = lv') (kk : JJ Γ Q nL ω k M ce sl pc lv' st) : JJ Γ Q nL ω k M ce sl pc lv st := by
  intro H locs ls h hP hz hS
  exact kk H locs ls (lv_sub h ks (by rw [shL_pick, hl])) hP hz hS
theorem jv_no {A : Prop} (h : (none : Option ρ) = some res) : A := by cases h
theorem jv_iconst (C : Cx Γ cc nL own ω hh mT sT) {n : Int} {v : Int32} (d : decode cc pc = .ok (.iconst n, 1)) (hv : Int32.ofInt n = v) (kk : JJ Γ Q nL ω k M ce sl (pc + 1) lv (.int v :: st)) : JJ Γ Q nL ω k M ce sl pc lv st := by
  obtain ⟨hx, hb, hml, hown, hts, hKW, hlk, hbs, hR⟩ := C
  intro H locs ls hl hP hz hS
  exact lv_iconst hx hb d hv (kk H locs ls hl hP hz hS)
theorem jv_bipush (C : Cx Γ cc nL own ω hh mT sT) {n : Int} {v : Int32} (d : decode cc pc = .ok (.bipush n, 2)) (hv : (Int8.ofInt n).toInt32 = v) (kk : JJ Γ Q nL ω k M ce sl (pc + 2) lv (.int v :: st)) : JJ Γ Q nL ω k M ce sl pc lv st := by
  obtain ⟨hx, hb, hml, hown, hts, hKW, hlk, hbs, hR⟩ := C
  intro H locs ls hl hP hz hS
  exact lv_bipush hx hb d hv (kk H locs ls hl hP hz hS)
theorem jv_sipush (C : Cx Γ cc nL own ω hh mT sT) {n : Int} {v : Int32} (d : decode cc pc = .ok (.sipush n, 3)) (hv : (Int16.ofInt n).toInt32 = v) (kk : JJ Γ Q nL ω k M ce sl (pc + 3) lv (.int v :: st)) : JJ Γ Q nL ω k M ce sl pc lv st := by
  obtain ⟨hx, hb, hml, hown, hts, hKW, hlk, hbs, hR⟩ := C
  intro H locs ls hl hP hz hS
  exact lv_sipush hx hb d hv (kk H locs ls hl hP hz hS)
theorem jv_lconst (C : Cx Γ cc nL own ω hh mT sT) {n : Fin 2} {v : Int64} (d : decode cc pc = .ok (.lconst n, 1)) (hv : Int64.ofNat (n : Nat) = v) (kk : JJ Γ Q nL ω k M ce sl (pc + 1) lv (.long v :: st)) : JJ Γ Q nL ω k M ce sl pc lv st := by
  obtain ⟨hx, hb, hml, hown, hts, hKW, hlk, hbs, hR⟩ := C
  intro H locs ls hl hP hz hS
  exact lv_lconst hx hb d hv (kk H locs ls hl hP hz hS)
theorem jv_ldc (C : Cx Γ cc nL own ω hh mT sT) {index : Nat} {v : Int32} (g : Cond.constant own index v ∈ gd_L) (d : decode cc pc = .ok (.ldc index, 2)) (kk : JJ Γ Q nL ω k M ce sl (pc + 2) lv (.int v :: st)) : JJ Γ Q nL ω k M ce sl pc lv st := by
  obtain ⟨hx, hb, hml, hown, hts, hKW, hlk, hbs, hR⟩ := C
  intro H locs ls hl hP hz hS
  exact lv_ldc hx hb hown (hts _ g) d (kk H locs ls hl hP hz hS)
theorem jv_ldcw (C : Cx Γ cc nL own ω hh mT sT) {index : Nat} {v : Int32} (g : Cond.constant own index v ∈ gd_L) (d : decode cc pc = .ok (.ldc_w index, 3)) (kk : JJ Γ Q nL ω k M ce sl (pc + 3) lv (.int v :: st)) : JJ Γ Q nL ω k M ce sl pc lv st := by
  obtain ⟨hx, hb, hml, hown, hts, hKW, hlk, hbs, hR⟩ := C
  intro H locs ls hl hP hz hS
  exact lv_ldcw hx hb hown (hts _ g) d (kk H locs ls hl hP hz hS)
theorem jv_ldc2 (C : Cx Γ cc nL own ω hh mT sT) {index : Nat} {v : Int64} (g : Cond.constantLong own index v ∈ gd_L) (d : decode cc pc = .ok (.ldc2_w index, 3)) (kk : JJ Γ Q nL ω k M ce sl (pc + 3) lv (.long v :: st)) : JJ Γ Q nL ω k M ce sl pc lv st := by
  obtain ⟨hx, hb, hml, hown, hts, hKW, hlk, hbs, hR⟩ := C
  intro H locs ls hl hP hz hS
  exact lv_ldc2 hx hb hown (hts _ g) d (kk H locs ls hl hP hz hS)
theorem jv_iload_n (C : Cx Γ cc nL own ω hh mT sT) {q : Fin 4} {i : Nat} {x : Int32} (d : decode cc pc = .ok (.iload_n q, 1)) (hi : (q : Nat) = i) (j : Nat) (hj : lv[j]? = some (i, .int x)) (kk : JJ Γ Q nL ω k M ce sl (pc + 1) lv (.int x :: st)) : JJ Γ Q nL ω k M ce sl pc lv st := by
  obtain ⟨hx, hb, hml, hown, hts, hKW, hlk, hbs, hR⟩ := C
  intro H locs ls hl hP hz hS
  exact lv_iload_n hx hb d hi (lv_at hl j (shL_at hj)) (kk H locs ls hl hP hz hS)
theorem jv_iload (C : Cx Γ cc nL own ω hh mT sT) {i : Nat} {x : Int32} (d : decode cc pc = .ok (.iload i, 2)) (j : Nat) (hj : lv[j]? = some (i, .int x)) (kk : JJ Γ Q nL ω k M ce sl (pc + 2) lv (.int x :: st)) : JJ Γ Q nL ω k M ce sl pc lv st := by
  obtain ⟨hx, hb, hml, hown, hts, hKW, hlk, hbs, hR⟩ := C
  intro H locs ls hl hP hz hS
  exact lv_iload hx hb d (lv_at hl j (shL_at hj)) (kk H locs ls hl hP hz hS)
theorem jv_istore_n (C : Cx Γ cc nL own ω hh mT sT) {q : Fin 4} {i : Nat} {x : Int32} {lv' : List (Nat × Value)} (d : decode cc pc = .ok (.istore_n q, 1)) (hi : (q : Nat) = i) (hn : i < nL) (hf : (i, Value.int x) :: lv.filter (fun q => !(q.1 == i) && !(q.1 + 1 == i && q.2.category == 2)) = lv') (kk : JJ Γ Q nL ω k M ce sl (pc + 1) lv' st) : JJ Γ Q nL ω k M ce sl pc lv (.int x :: st) := by
  obtain ⟨hx, hb, hml, hown, hts, hKW, hlk, hbs, hR⟩ := C
  intro H locs ls hl hP hz hS
  exact lv_istore_n hx hb d hi hl hn ((shL_filter1 (v := .int x)).trans (congrArg (shL ω) hf)) (fun ls hl => kk H locs ls hl hP hz hS)
theorem jv_istore (C : Cx Γ cc nL own ω hh mT sT) {i : Nat} {x : Int32} {lv' : List (Nat × Value)} (d : decode cc pc = .ok (.istore i, 2)) (hn : i < nL) (hf : (i, Value.int x) :: lv.filter (fun q => !(q.1 == i) && !(q.1 + 1 == i && q.2.category == 2)) = lv') (kk : JJ Γ Q nL ω k M ce sl (pc + 2) lv' st) : JJ Γ Q nL ω k M ce sl pc lv (.int x :: st) := by
  obtain ⟨hx, hb, hml, hown, hts, hKW, hlk, hbs, hR⟩ := C
  intro H locs ls hl hP hz hS
  exact lv_istore hx hb d hl hn ((shL_filter1 (v := .int x)).trans (congrArg (shL ω) hf)) (fun ls hl => kk H locs ls hl hP hz hS)
theorem jv_lload_n (C : Cx Γ cc nL own ω hh mT sT) {q : Fin 4} {i : Nat} {x : Int64} (d : decode cc pc = .ok (.lload_n q, 1)) (hi : (q : Nat) = i) (j : Nat) (hj : lv[j]? = some (i, .long x)) (kk : JJ Γ Q nL ω k M ce sl (pc + 1) lv (.long x :: st)) : JJ Γ Q nL ω k M ce sl pc lv st := by
  obtain ⟨hx, hb, hml, hown, hts, hKW, hlk, hbs, hR⟩ := C
  intro H locs ls hl hP hz hS
  exact lv_lload_n hx hb d hi (lv_at hl j (shL_at hj)) (kk H locs ls hl hP hz hS)
theorem jv_lload (C : Cx Γ cc nL own ω hh mT sT) {i : Nat} {x : Int64} (d : decode cc pc = .ok (.lload i, 2)) (j : Nat) (hj : lv[j]? = some (i, .long x)) (kk : JJ Γ Q nL ω k M ce sl (pc + 2) lv (.long x :: st)) : JJ Γ Q nL ω k M ce sl pc lv st := by
  obtain ⟨hx, hb, hml, hown, hts, hKW, hlk, hbs, hR⟩ := C
  intro H locs ls hl hP hz hS
  exact lv_lload hx hb d (lv_at hl j (shL_at hj)) (kk H locs ls hl hP hz hS)
theorem jv_lstore_n (C : Cx Γ cc nL own ω hh mT sT) {q : Fin 4} {i : Nat} {x : Int64} {lv' : List (Nat × Value)} (d : decode cc pc = .ok (.lstore_n q, 1)) (hi : (q : Nat) = i) (hn : i + 1 < nL) (hf : (i, Value.long x) :: lv.filter (fun q => !(q.1 == i) && (!(q.1 == i + 1) && !(q.1 + 1 == i && q.2.category == 2))) = lv') (kk : JJ Γ Q nL ω k M ce sl (pc + 1) lv' st) : JJ Γ Q nL ω k M ce sl pc lv (.long x :: st) := by
  obtain ⟨hx, hb, hml, hown, hts, hKW, hlk, hbs, hR⟩ := C
  intro H locs ls hl hP hz hS
  exact lv_lstore_n hx hb d hi hl hn ((shL_filter2 (v := .long x)).trans (congrArg (shL ω) hf)) (fun ls hl => kk H locs ls hl hP hz hS)
theorem jv_lstore (C : Cx Γ cc nL own ω hh mT sT) {i : Nat} {x : Int64} {lv' : List (Nat × Value)} (d : decode cc pc = .ok (.lstore i, 2)) (hn : i + 1 < nL) (hf : (i, Value.long x) :: lv.filter (fun q => !(q.1 == i) && (!(q.1 == i + 1) && !(q.1 + 1 == i && q.2.category == 2))) = lv') (kk : JJ Γ Q nL ω k M ce sl (pc + 2) lv' st) : JJ Γ Q nL ω k M ce sl pc lv (.long x :: st) := by
  obtain ⟨hx, hb, hml, hown, hts, hKW, hlk, hbs, hR⟩ := C
  intro H locs ls hl hP hz hS
  exact lv_lstore hx hb d hl hn ((shL_filter2 (v := .long x)).trans (congrArg (shL ω) hf)) (fun ls hl => kk H locs ls hl hP hz hS)
theorem jv_aload_n (C : Cx Γ cc nL own ω hh mT sT) {q : Fin 4} {i : Nat} {x : Nat} (d : decode cc pc = .ok (.aload_n q, 1)) (hi : (q : Nat) = i) (j : Nat) (hj : lv[j]? = some (i, .ref x)) (kk : JJ Γ Q nL ω k M ce sl (pc + 1) lv (.ref x :: st)) : JJ Γ Q nL ω k M ce sl pc lv st := by
  obtain ⟨hx, hb, hml, hown, hts, hKW, hlk, hbs, hR⟩ := C
  intro H locs ls hl hP hz hS
  exact lv_aload_n hx hb d hi (lv_at hl j (shL_at hj)) (kk H locs ls hl hP hz hS)
theorem jv_aload (C : Cx Γ cc nL own ω hh mT sT) {i : Nat} {x : Nat} (d : decode cc pc = .ok (.aload i, 2)) (j : Nat) (hj : lv[j]? = some (i, .ref x)) (kk : JJ Γ Q nL ω k M ce sl (pc + 2) lv (.ref x :: st)) : JJ Γ Q nL ω k M ce sl pc lv st := by
  obtain ⟨hx, hb, hml, hown, hts, hKW, hlk, hbs, hR⟩ := C
  intro H locs ls hl hP hz hS
  exact lv_aload hx hb d (lv_at hl j (shL_at hj)) (kk H locs ls hl hP hz hS)
theorem jv_astore_n (C : Cx Γ cc nL own ω hh mT sT) {q : Fin 4} {i : Nat} {x : Nat} {lv' : List (Nat × Value)} (d : decode cc pc = .ok (.astore_n q, 1)) (hi : (q : Nat) = i) (hn : i < nL) (hf : (i, Value.ref x) :: lv.filter (fun q => !(q.1 == i) && !(q.1 + 1 == i && q.2.category == 2)) = lv') (kk : JJ Γ Q nL ω k M ce sl (pc + 1) lv' st) : JJ Γ Q nL ω k M ce sl pc lv (.ref x :: st) := by
  obtain ⟨hx, hb, hml, hown, hts, hKW, hlk, hbs, hR⟩ := C
  intro H locs ls hl hP hz hS
  exact lv_astore_n hx hb d hi hl hn ((shL_filter1 (v := .ref x)).trans (congrArg (shL ω) hf)) (fun ls hl => kk H locs ls hl hP hz hS)
theorem jv_astore (C : Cx Γ cc nL own ω hh mT sT) {i : Nat} {x : Nat} {lv' : List (Nat × Value)} (d : decode cc pc = .ok (.astore i, 2)) (hn : i < nL) (hf : (i, Value.ref x) :: lv.filter (fun q => !(q.1 == i) && !(q.1 + 1 == i && q.2.category == 2)) = lv') (kk : JJ Γ Q nL ω k M ce sl (pc + 2) lv' st) : JJ Γ Q nL ω k M ce sl pc lv (.ref x :: st) := by
  obtain ⟨hx, hb, hml, hown, hts, hKW, hlk, hbs, hR⟩ := C
  intro H locs ls hl hP hz hS
  exact lv_astore hx hb d hl hn ((shL_filter1 (v := .ref x)).trans (congrArg (shL ω) hf)) (fun ls hl => kk H locs ls hl hP hz hS)
theorem jv_iinc (C : Cx Γ cc nL own ω hh mT sT) {i : Nat} {n : Int} {x v : Int32} {lv' : List (Nat × Value)} (d : decode cc pc = .ok (.iinc i n, 3)) (j : Nat) (hj : lv[j]? = some (i, .int x)) (hv : Int32.ofInt n = v) (hn : i < nL) (hf : (i, Value.int (x + v)) :: lv.filter (fun q => !(q.1 == i) && !(q.1 + 1 == i && q.2.category == 2)) = lv') (kk : JJ Γ Q nL ω k M ce sl (pc + 3) lv' st) : JJ Γ Q nL ω k M ce sl pc lv st := by
  obtain ⟨hx, hb, hml, hown, hts, hKW, hlk, hbs, hR⟩ := C
  intro H locs ls hl hP hz hS
  subst hv; exact lv_iinc hx hb d hl (shL_at hj) rfl hn ((shL_filter1 (v := .int (x + Int32.ofInt n))).trans (congrArg (shL ω) hf)) (fun ls hl => kk H locs ls hl hP hz hS)
theorem jv_iadd (C : Cx Γ cc nL own ω hh mT sT) {x y : Int32} (d : decode cc pc = .ok (.iadd, 1)) (kk : JJ Γ Q nL ω k M ce sl (pc + 1) lv (.int (x + y) :: st)) : JJ Γ Q nL ω k M ce sl pc lv (.int y :: .int x :: st) := by
  obtain ⟨hx, hb, hml, hown, hts, hKW, hlk, hbs, hR⟩ := C
  intro H locs ls hl hP hz hS
  exact lv_iadd hx hb d (kk H locs ls hl hP hz hS)
theorem jv_isub (C : Cx Γ cc nL own ω hh mT sT) {x y : Int32} (d : decode cc pc = .ok (.isub, 1)) (kk : JJ Γ Q nL ω k M ce sl (pc + 1) lv (.int (x - y) :: st)) : JJ Γ Q nL ω k M ce sl pc lv (.int y :: .int x :: st) := by
  obtain ⟨hx, hb, hml, hown, hts, hKW, hlk, hbs, hR⟩ := C
  intro H locs ls hl hP hz hS
  exact lv_isub hx hb d (kk H locs ls hl hP hz hS)
theorem jv_imul (C : Cx Γ cc nL own ω hh mT sT) {x y : Int32} (d : decode cc pc = .ok (.imul, 1)) (kk : JJ Γ Q nL ω k M ce sl (pc + 1) lv (.int (x * y) :: st)) : JJ Γ Q nL ω k M ce sl pc lv (.int y :: .int x :: st) := by
  obtain ⟨hx, hb, hml, hown, hts, hKW, hlk, hbs, hR⟩ := C
  intro H locs ls hl hP hz hS
  exact lv_imul hx hb d (kk H locs ls hl hP hz hS)
theorem jv_iand (C : Cx Γ cc nL own ω hh mT sT) {x y : Int32} (d : decode cc pc = .ok (.iand, 1)) (kk : JJ Γ Q nL ω k M ce sl (pc + 1) lv (.int (x &&& y) :: st)) : JJ Γ Q nL ω k M ce sl pc lv (.int y :: .int x :: st) := by
  obtain ⟨hx, hb, hml, hown, hts, hKW, hlk, hbs, hR⟩ := C
  intro H locs ls hl hP hz hS
  exact lv_iand hx hb d (kk H locs ls hl hP hz hS)
theorem jv_ior (C : Cx Γ cc nL own ω hh mT sT) {x y : Int32} (d : decode cc pc = .ok (.ior, 1)) (kk : JJ Γ Q nL ω k M ce sl (pc + 1) lv (.int (x ||| y) :: st)) : JJ Γ Q nL ω k M ce sl pc lv (.int y :: .int x :: st) := by
  obtain ⟨hx, hb, hml, hown, hts, hKW, hlk, hbs, hR⟩ := C
  intro H locs ls hl hP hz hS
  exact lv_ior hx hb d (kk H locs ls hl hP hz hS)
theorem jv_ixor (C : Cx Γ cc nL own ω hh mT sT) {x y : Int32} (d : decode cc pc = .ok (.ixor, 1)) (kk : JJ Γ Q nL ω k M ce sl (pc + 1) lv (.int (x ^^^ y) :: st)) : JJ Γ Q nL ω k M ce sl pc lv (.int y :: .int x :: st) := by
  obtain ⟨hx, hb, hml, hown, hts, hKW, hlk, hbs, hR⟩ := C
  intro H locs ls hl hP hz hS
  exact lv_ixor hx hb d (kk H locs ls hl hP hz hS)
theorem jv_ishl (C : Cx Γ cc nL own ω hh mT sT) {x y : Int32} (d : decode cc pc = .ok (.ishl, 1)) (kk : JJ Γ Q nL ω k M ce sl (pc + 1) lv (.int (x <<< (y &&& 31)) :: st)) : JJ Γ Q nL ω k M ce sl pc lv (.int y :: .int x :: st) := by
  obtain ⟨hx, hb, hml, hown, hts, hKW, hlk, hbs, hR⟩ := C
  intro H locs ls hl hP hz hS
  exact lv_ishl hx hb d (kk H locs ls hl hP hz hS)
theorem jv_ishr (C : Cx Γ cc nL own ω hh mT sT) {x y : Int32} (d : decode cc pc = .ok (.ishr, 1)) (kk : JJ Γ Q nL ω k M ce sl (pc + 1) lv (.int (x >>> (y &&& 31)) :: st)) : JJ Γ Q nL ω k M ce sl pc lv (.int y :: .int x :: st) := by
  obtain ⟨hx, hb, hml, hown, hts, hKW, hlk, hbs, hR⟩ := C
  intro H locs ls hl hP hz hS
  exact lv_ishr hx hb d (kk H locs ls hl hP hz hS)
theorem jv_ladd (C : Cx Γ cc nL own ω hh mT sT) {x y : Int64} (d : decode cc pc = .ok (.ladd, 1)) (kk : JJ Γ Q nL ω k M ce sl (pc + 1) lv (.long (x + y) :: st)) : JJ Γ Q nL ω k M ce sl pc lv (.long y :: .long x :: st) := by
  obtain ⟨hx, hb, hml, hown, hts, hKW, hlk, hbs, hR⟩ := C
  intro H locs ls hl hP hz hS
  exact lv_ladd hx hb d (kk H locs ls hl hP hz hS)
theorem jv_lsub (C : Cx Γ cc nL own ω hh mT sT) {x y : Int64} (d : decode cc pc = .ok (.lsub, 1)) (kk : JJ Γ Q nL ω k M ce sl (pc + 1) lv (.long (x - y) :: st)) : JJ Γ Q nL ω k M ce sl pc lv (.long y :: .long x :: st) := by
  obtain ⟨hx, hb, hml, hown, hts, hKW, hlk, hbs, hR⟩ := C
  intro H locs ls hl hP hz hS
  exact lv_lsub hx hb d (kk H locs ls hl hP hz hS)
theorem jv_lmul (C : Cx Γ cc nL own ω hh mT sT) {x y : Int64} (d : decode cc pc = .ok (.lmul, 1)) (kk : JJ Γ Q nL ω k M ce sl (pc + 1) lv (.long (x * y) :: st)) : JJ Γ Q nL ω k M ce sl pc lv (.long y :: .long x :: st) := by
  obtain ⟨hx, hb, hml, hown, hts, hKW, hlk, hbs, hR⟩ := C
  intro H locs ls hl hP hz hS
  exact lv_lmul hx hb d (kk H locs ls hl hP hz hS)
theorem jv_ineg (C : Cx Γ cc nL own ω hh mT sT) {x : Int32} (d : decode cc pc = .ok (.ineg, 1)) (kk : JJ Γ Q nL ω k M ce sl (pc + 1) lv (.int (0 - x) :: st)) : JJ Γ Q nL ω k M ce sl pc lv (.int x :: st) := by
  obtain ⟨hx, hb, hml, hown, hts, hKW, hlk, hbs, hR⟩ := C
  intro H locs ls hl hP hz hS
  exact lv_ineg hx hb d (kk H locs ls hl hP hz hS)
theorem jv_i2l (C : Cx Γ cc nL own ω hh mT sT) {x : Int32} (d : decode cc pc = .ok (.i2l, 1)) (kk : JJ Γ Q nL ω k M ce sl (pc + 1) lv (.long x.toInt64 :: st)) : JJ Γ Q nL ω k M ce sl pc lv (.int x :: st) := by
  obtain ⟨hx, hb, hml, hown, hts, hKW, hlk, hbs, hR⟩ := C
  intro H locs ls hl hP hz hS
  exact lv_i2l hx hb d rfl (kk H locs ls hl hP hz hS)
theorem jv_l2i (C : Cx Γ cc nL own ω hh mT sT) {x : Int64} (d : decode cc pc = .ok (.l2i, 1)) (kk : JJ Γ Q nL ω k M ce sl (pc + 1) lv (.int x.toInt32 :: st)) : JJ Γ Q nL ω k M ce sl pc lv (.long x :: st) := by
  obtain ⟨hx, hb, hml, hown, hts, hKW, hlk, hbs, hR⟩ := C
  intro H locs ls hl hP hz hS
  exact lv_l2i hx hb d rfl (kk H locs ls hl hP hz hS)
theorem jv_i2b (C : Cx Γ cc nL own ω hh mT sT) {x : Int32} (d : decode cc pc = .ok (.i2b, 1)) (kk : JJ Γ Q nL ω k M ce sl (pc + 1) lv (.int x.toInt8.toInt32 :: st)) : JJ Γ Q nL ω k M ce sl pc lv (.int x :: st) := by
  obtain ⟨hx, hb, hml, hown, hts, hKW, hlk, hbs, hR⟩ := C
  intro H locs ls hl hP hz hS
  exact lv_i2b hx hb d rfl (kk H locs ls hl hP hz hS)
theorem jv_lcmp (C : Cx Γ cc nL own ω hh mT sT) {x y : Int64} (d : decode cc pc = .ok (.lcmp, 1)) (kk : JJ Γ Q nL ω k M ce sl (pc + 1) lv (.int (lg_cmp x y) :: st)) : JJ Γ Q nL ω k M ce sl pc lv (.long y :: .long x :: st) := by
  obtain ⟨hx, hb, hml, hown, hts, hKW, hlk, hbs, hR⟩ := C
  intro H locs ls hl hP hz hS
  exact W.lcmp hx hb d (kk H locs ls hl hP hz hS)
theorem jv_dup (C : Cx Γ cc nL own ω hh mT sT) {v : Value} (d : decode cc pc = .ok (.dup, 1)) (hv : v.category = 1) (kk : JJ Γ Q nL ω k M ce sl (pc + 1) lv (v :: v :: st)) : JJ Γ Q nL ω k M ce sl pc lv (v :: st) := by
  obtain ⟨hx, hb, hml, hown, hts, hKW, hlk, hbs, hR⟩ := C
  intro H locs ls hl hP hz hS
  exact lv_dup hx hb d (by rw [sh_cat]; exact hv) (kk H locs ls hl hP hz hS)
theorem jv_pop (C : Cx Γ cc nL own ω hh mT sT) {v : Value} (d : decode cc pc = .ok (.pop, 1)) (hv : v.category = 1) (kk : JJ Γ Q nL ω k M ce sl (pc + 1) lv st) : JJ Γ Q nL ω k M ce sl pc lv (v :: st) := by
  obtain ⟨hx, hb, hml, hown, hts, hKW, hlk, hbs, hR⟩ := C
  intro H locs ls hl hP hz hS
  exact lv_pop hx hb d (by rw [sh_cat]; exact hv) (kk H locs ls hl hP hz hS)
theorem jv_dup2 (C : Cx Γ cc nL own ω hh mT sT) {v u : Value} (d : decode cc pc = .ok (.dup2, 1)) (hv : v.category = 1) (hu : u.category = 1) (kk : JJ Γ Q nL ω k M ce sl (pc + 1) lv (v :: u :: v :: u :: st)) : JJ Γ Q nL ω k M ce sl pc lv (v :: u :: st) := by
  obtain ⟨hx, hb, hml, hown, hts, hKW, hlk, hbs, hR⟩ := C
  intro H locs ls hl hP hz hS
  exact lv_dup2_11 hx hb d (by rw [sh_cat]; exact hv) (by rw [sh_cat]; exact hu) (kk H locs ls hl hP hz hS)
theorem jv_dup_x1 (C : Cx Γ cc nL own ω hh mT sT) {v u : Value} (d : decode cc pc = .ok (.dup_x1, 1)) (hv : v.category = 1) (hu : u.category = 1) (kk : JJ Γ Q nL ω k M ce sl (pc + 1) lv (v :: u :: v :: st)) : JJ Γ Q nL ω k M ce sl pc lv (v :: u :: st) := by
  obtain ⟨hx, hb, hml, hown, hts, hKW, hlk, hbs, hR⟩ := C
  intro H locs ls hl hP hz hS
  exact lv_dup_x1 hx hb d (by rw [sh_cat]; exact hv) (by rw [sh_cat]; exact hu) (kk H locs ls hl hP hz hS)
theorem jv_goto (C : Cx Γ cc nL own ω hh mT sT) {off : Int} {tgt : Nat} (d : decode cc pc = .ok (.goto off, 3)) (ht : (pc : Int) + off = (tgt : Int)) (kk : JJ Γ Q nL ω k M ce sl tgt lv st) : JJ Γ Q nL ω k M ce sl pc lv st := by
  obtain ⟨hx, hb, -⟩ := C
  intro H locs ls hl hP hz hS
  exact lv_goto hx hb d ht (kk H locs ls hl hP hz hS)
theorem jv_idiv (C : Cx Γ cc nL own ω hh mT sT) {x y : Int32} (d : decode cc pc = .ok (.idiv, 1)) {K : Int32 → Option ρ} (h : (mm_dI x y).bind K = some res) (kk : ∀ v, K v = some res → JJ Γ Q nL ω k M ce sl (pc + 1) lv (.int v :: st)) : JJ Γ Q nL ω k M ce sl pc lv (.int y :: .int x :: st) := by
  obtain ⟨hx, hb, -⟩ := C
  intro H locs ls hl hP hz hS
  obtain ⟨v, h1, h2⟩ := Option.bind_eq_some_iff.mp h
  unfold mm_dI at h1
  split at h1
  · cases h1
  · rename_i hne; cases h1; exact lv_idiv hx hb d hne (kk _ h2 H locs ls hl hP hz hS)
theorem jv_irem (C : Cx Γ cc nL own ω hh mT sT) {x y : Int32} (d : decode cc pc = .ok (.irem, 1)) {K : Int32 → Option ρ} (h : (mm_rI x y).bind K = some res) (kk : ∀ v, K v = some res → JJ Γ Q nL ω k M ce sl (pc + 1) lv (.int v :: st)) : JJ Γ Q nL ω k M ce sl pc lv (.int y :: .int x :: st) := by
  obtain ⟨hx, hb, -⟩ := C
  intro H locs ls hl hP hz hS
  obtain ⟨v, h1, h2⟩ := Option.bind_eq_some_iff.mp h
  unfold mm_rI at h1
  split at h1
  · cases h1
  · rename_i hne; cases h1; exact lv_irem hx hb d hne (kk _ h2 H locs ls hl hP hz hS)
theorem jv_ldiv (C : Cx Γ cc nL own ω hh mT sT) {x y : Int64} (d : decode cc pc = .ok (.ldiv, 1)) {K : Int64 → Option ρ} (h : (mm_dL x y).bind K = some res) (kk : ∀ v, K v = some res → JJ Γ Q nL ω k M ce sl (pc + 1) lv (.long v :: st)) : JJ Γ Q nL ω k M ce sl pc lv (.long y :: .long x :: st) := by
  obtain ⟨hx, hb, -⟩ := C
  intro H locs ls hl hP hz hS
  obtain ⟨v, h1, h2⟩ := Option.bind_eq_some_iff.mp h
  unfold mm_dL at h1
  split at h1
  · cases h1
  · rename_i hne; cases h1; exact lv_ldiv hx hb d hne (kk _ h2 H locs ls hl hP hz hS)
theorem jv_lrem (C : Cx Γ cc nL own ω hh mT sT) {x y : Int64} (d : decode cc pc = .ok (.lrem, 1)) {K : Int64 → Option ρ} (h : (mm_rL x y).bind K = some res) (kk : ∀ v, K v = some res → JJ Γ Q nL ω k M ce sl (pc + 1) lv (.long v :: st)) : JJ Γ Q nL ω k M ce sl pc lv (.long y :: .long x :: st) := by
  obtain ⟨hx, hb, -⟩ := C
  intro H locs ls hl hP hz hS
  obtain ⟨v, h1, h2⟩ := Option.bind_eq_some_iff.mp h
  unfold mm_rL at h1
  split at h1
  · cases h1
  · rename_i hne; cases h1; exact lv_lrem hx hb d hne (kk _ h2 H locs ls hl hP hz hS)
theorem jv_if_eq (C : Cx Γ cc nL own ω hh mT sT) {x : Int32} {off : Int} {tgt : Nat} (d : decode cc pc = .ok (.ifCond .eq off, 3)) (ht : (pc : Int) + off = (tgt : Int)) {A B : Option ρ} {inst : Decidable (x = 0)} (h : @ite (Option ρ) (x = 0) inst A B = some res) (k1 : A = some res → JJ Γ Q nL ω k M ce sl tgt lv st) (k2 : B = some res → JJ Γ Q nL ω k M ce sl (pc + 3) lv st) : JJ Γ Q nL ω k M ce sl pc lv (.int x :: st) := by
  obtain ⟨hx, hb, -⟩ := C
  intro H locs ls hl hP hz hS
  exact lv_if_eq hx hb d ht (fun c => k1 (by rw [if_pos c] at h; exact h) H locs ls hl hP hz hS) (fun c => k2 (by rw [if_neg c] at h; exact h) H locs ls hl hP hz hS)
theorem jv_icmp_eq (C : Cx Γ cc nL own ω hh mT sT) {x y : Int32} {off : Int} {tgt : Nat} (d : decode cc pc = .ok (.if_icmp .eq off, 3)) (ht : (pc : Int) + off = (tgt : Int)) {A B : Option ρ} {inst : Decidable (x = y)} (h : @ite (Option ρ) (x = y) inst A B = some res) (k1 : A = some res → JJ Γ Q nL ω k M ce sl tgt lv st) (k2 : B = some res → JJ Γ Q nL ω k M ce sl (pc + 3) lv st) : JJ Γ Q nL ω k M ce sl pc lv (.int y :: .int x :: st) := by
  obtain ⟨hx, hb, -⟩ := C
  intro H locs ls hl hP hz hS
  exact lv_icmp_eq hx hb d ht (fun c => k1 (by rw [if_pos c] at h; exact h) H locs ls hl hP hz hS) (fun c => k2 (by rw [if_neg c] at h; exact h) H locs ls hl hP hz hS)
theorem jv_if_ne (C : Cx Γ cc nL own ω hh mT sT) {x : Int32} {off : Int} {tgt : Nat} (d : decode cc pc = .ok (.ifCond .ne off, 3)) (ht : (pc : Int) + off = (tgt : Int)) {A B : Option ρ} {inst : Decidable (x = 0)} (h : @ite (Option ρ) (x = 0) inst B A = some res) (k1 : A = some res → JJ Γ Q nL ω k M ce sl tgt lv st) (k2 : B = some res → JJ Γ Q nL ω k M ce sl (pc + 3) lv st) : JJ Γ Q nL ω k M ce sl pc lv (.int x :: st) := by
  obtain ⟨hx, hb, -⟩ := C
  intro H locs ls hl hP hz hS
  exact lv_if_ne hx hb d ht (fun c => k1 (by rw [if_neg c] at h; exact h) H locs ls hl hP hz hS) (fun c => k2 (by rw [if_pos c] at h; exact h) H locs ls hl hP hz hS)
theorem jv_icmp_ne (C : Cx Γ cc nL own ω hh mT sT) {x y : Int32} {off : Int} {tgt : Nat} (d : decode cc pc = .ok (.if_icmp .ne off, 3)) (ht : (pc : Int) + off = (tgt : Int)) {A B : Option ρ} {inst : Decidable (x = y)} (h : @ite (Option ρ) (x = y) inst B A = some res) (k1 : A = some res → JJ Γ Q nL ω k M ce sl tgt lv st) (k2 : B = some res → JJ Γ Q nL ω k M ce sl (pc + 3) lv st) : JJ Γ Q nL ω k M ce sl pc lv (.int y :: .int x :: st) := by
  obtain ⟨hx, hb, -⟩ := C
  intro H locs ls hl hP hz hS
  exact lv_icmp_ne hx hb d ht (fun c => k1 (by rw [if_neg c] at h; exact h) H locs ls hl hP hz hS) (fun c => k2 (by rw [if_pos c] at h; exact h) H locs ls hl hP hz hS)
theorem jv_if_lt (C : Cx Γ cc nL own ω hh mT sT) {x : Int32} {off : Int} {tgt : Nat} (d : decode cc pc = .ok (.ifCond .lt off, 3)) (ht : (pc : Int) + off = (tgt : Int)) {A B : Option ρ} {inst : Decidable (x < 0)} (h : @ite (Option ρ) (x < 0) inst A B = some res) (k1 : A = some res → JJ Γ Q nL ω k M ce sl tgt lv st) (k2 : B = some res → JJ Γ Q nL ω k M ce sl (pc + 3) lv st) : JJ Γ Q nL ω k M ce sl pc lv (.int x :: st) := by
  obtain ⟨hx, hb, -⟩ := C
  intro H locs ls hl hP hz hS
  exact lv_if_lt hx hb d ht (fun c => k1 (by rw [if_pos c] at h; exact h) H locs ls hl hP hz hS) (fun c => k2 (by rw [if_neg c] at h; exact h) H locs ls hl hP hz hS)
theorem jv_icmp_lt (C : Cx Γ cc nL own ω hh mT sT) {x y : Int32} {off : Int} {tgt : Nat} (d : decode cc pc = .ok (.if_icmp .lt off, 3)) (ht : (pc : Int) + off = (tgt : Int)) {A B : Option ρ} {inst : Decidable (x < y)} (h : @ite (Option ρ) (x < y) inst A B = some res) (k1 : A = some res → JJ Γ Q nL ω k M ce sl tgt lv st) (k2 : B = some res → JJ Γ Q nL ω k M ce sl (pc + 3) lv st) : JJ Γ Q nL ω k M ce sl pc lv (.int y :: .int x :: st) := by
  obtain ⟨hx, hb, -⟩ := C
  intro H locs ls hl hP hz hS
  exact lv_icmp_lt hx hb d ht (fun c => k1 (by rw [if_pos c] at h; exact h) H locs ls hl hP hz hS) (fun c => k2 (by rw [if_neg c] at h; exact h) H locs ls hl hP hz hS)
theorem jv_if_ge (C : Cx Γ cc nL own ω hh mT sT) {x : Int32} {off : Int} {tgt : Nat} (d : decode cc pc = .ok (.ifCond .ge off, 3)) (ht : (pc : Int) + off = (tgt : Int)) {A B : Option ρ} {inst : Decidable (0 ≤ x)} (h : @ite (Option ρ) (0 ≤ x) inst A B = some res) (k1 : A = some res → JJ Γ Q nL ω k M ce sl tgt lv st) (k2 : B = some res → JJ Γ Q nL ω k M ce sl (pc + 3) lv st) : JJ Γ Q nL ω k M ce sl pc lv (.int x :: st) := by
  obtain ⟨hx, hb, -⟩ := C
  intro H locs ls hl hP hz hS
  exact lv_if_ge hx hb d ht (fun c => k1 (by rw [if_pos c] at h; exact h) H locs ls hl hP hz hS) (fun c => k2 (by rw [if_neg c] at h; exact h) H locs ls hl hP hz hS)
theorem jv_icmp_ge (C : Cx Γ cc nL own ω hh mT sT) {x y : Int32} {off : Int} {tgt : Nat} (d : decode cc pc = .ok (.if_icmp .ge off, 3)) (ht : (pc : Int) + off = (tgt : Int)) {A B : Option ρ} {inst : Decidable (y ≤ x)} (h : @ite (Option ρ) (y ≤ x) inst A B = some res) (k1 : A = some res → JJ Γ Q nL ω k M ce sl tgt lv st) (k2 : B = some res → JJ Γ Q nL ω k M ce sl (pc + 3) lv st) : JJ Γ Q nL ω k M ce sl pc lv (.int y :: .int x :: st) := by
  obtain ⟨hx, hb, -⟩ := C
  intro H locs ls hl hP hz hS
  exact lv_icmp_ge hx hb d ht (fun c => k1 (by rw [if_pos c] at h; exact h) H locs ls hl hP hz hS) (fun c => k2 (by rw [if_neg c] at h; exact h) H locs ls hl hP hz hS)
theorem jv_if_gt (C : Cx Γ cc nL own ω hh mT sT) {x : Int32} {off : Int} {tgt : Nat} (d : decode cc pc = .ok (.ifCond .gt off, 3)) (ht : (pc : Int) + off = (tgt : Int)) {A B : Option ρ} {inst : Decidable (0 < x)} (h : @ite (Option ρ) (0 < x) inst A B = some res) (k1 : A = some res → JJ Γ Q nL ω k M ce sl tgt lv st) (k2 : B = some res → JJ Γ Q nL ω k M ce sl (pc + 3) lv st) : JJ Γ Q nL ω k M ce sl pc lv (.int x :: st) := by
  obtain ⟨hx, hb, -⟩ := C
  intro H locs ls hl hP hz hS
  exact lv_if_gt hx hb d ht (fun c => k1 (by rw [if_pos c] at h; exact h) H locs ls hl hP hz hS) (fun c => k2 (by rw [if_neg c] at h; exact h) H locs ls hl hP hz hS)
theorem jv_icmp_gt (C : Cx Γ cc nL own ω hh mT sT) {x y : Int32} {off : Int} {tgt : Nat} (d : decode cc pc = .ok (.if_icmp .gt off, 3)) (ht : (pc : Int) + off = (tgt : Int)) {A B : Option ρ} {inst : Decidable (y < x)} (h : @ite (Option ρ) (y < x) inst A B = some res) (k1 : A = some res → JJ Γ Q nL ω k M ce sl tgt lv st) (k2 : B = some res → JJ Γ Q nL ω k M ce sl (pc + 3) lv st) : JJ Γ Q nL ω k M ce sl pc lv (.int y :: .int x :: st) := by
  obtain ⟨hx, hb, -⟩ := C
  intro H locs ls hl hP hz hS
  exact lv_icmp_gt hx hb d ht (fun c => k1 (by rw [if_pos c] at h; exact h) H locs ls hl hP hz hS) (fun c => k2 (by rw [if_neg c] at h; exact h) H locs ls hl hP hz hS)
theorem jv_if_le (C : Cx Γ cc nL own ω hh mT sT) {x : Int32} {off : Int} {tgt : Nat} (d : decode cc pc = .ok (.ifCond .le off, 3)) (ht : (pc : Int) + off = (tgt : Int)) {A B : Option ρ} {inst : Decidable (x ≤ 0)} (h : @ite (Option ρ) (x ≤ 0) inst A B = some res) (k1 : A = some res → JJ Γ Q nL ω k M ce sl tgt lv st) (k2 : B = some res → JJ Γ Q nL ω k M ce sl (pc + 3) lv st) : JJ Γ Q nL ω k M ce sl pc lv (.int x :: st) := by
  obtain ⟨hx, hb, -⟩ := C
  intro H locs ls hl hP hz hS
  exact lv_if_le hx hb d ht (fun c => k1 (by rw [if_pos c] at h; exact h) H locs ls hl hP hz hS) (fun c => k2 (by rw [if_neg c] at h; exact h) H locs ls hl hP hz hS)
theorem jv_icmp_le (C : Cx Γ cc nL own ω hh mT sT) {x y : Int32} {off : Int} {tgt : Nat} (d : decode cc pc = .ok (.if_icmp .le off, 3)) (ht : (pc : Int) + off = (tgt : Int)) {A B : Option ρ} {inst : Decidable (x ≤ y)} (h : @ite (Option ρ) (x ≤ y) inst A B = some res) (k1 : A = some res → JJ Γ Q nL ω k M ce sl tgt lv st) (k2 : B = some res → JJ Γ Q nL ω k M ce sl (pc + 3) lv st) : JJ Γ Q nL ω k M ce sl pc lv (.int y :: .int x :: st) := by
  obtain ⟨hx, hb, -⟩ := C
  intro H locs ls hl hP hz hS
  exact lv_icmp_le hx hb d ht (fun c => k1 (by rw [if_pos c] at h; exact h) H locs ls hl hP hz hS) (fun c => k2 (by rw [if_neg c] at h; exact h) H locs ls hl hP hz hS)
def jv_FA (own : String) (idx ci j : Nat) : Prop := ∃ (C : String) (T : u_T) (N : Nat), cl_L[ci]? = some (C, T, N) ∧ j < N ∧ (∀ w ∈ u_ws C T N, w ∈ gd_L) ∧ (Cond.fieldLink own idx (T j).1 (T j).2.1 (T j).2.2.1 ∈ gd_L ∨ ∃ host, Cond.fieldLinkNest own idx (T j).1 (T j).2.1 (T j).2.2.1 host ∈ ns_L)
def jv_FP (own : String) (idx ci j : Nat) (ty : FieldType) : Prop := ∃ (C : String) (T : u_T) (N : Nat) (tf : Nat → FieldType), cl_L[ci]? = some (C, T, N) ∧ j < N ∧ (∀ w ∈ u_ws C T N, w ∈ gd_L) ∧ (∀ k, k < N → parseFieldDescriptor (T k).2.2.1 = some (tf k)) ∧ (∀ a, a < N → ∀ b, b < N → a ≠ b → (T a).2.1 ≠ (T b).2.1) ∧ parseFieldDescriptor (T j).2.2.1 = some ty ∧ (T j).2.2.2 = false ∧ (Cond.fieldLink own idx (T j).1 (T j).2.1 (T j).2.2.1 ∈ gd_L ∨ ∃ host, Cond.fieldLinkNest own idx (T j).1 (T j).2.1 (T j).2.2.1 host ∈ ns_L)
def jv_FF (own : String) (idx ci j : Nat) (ty : FieldType) : Prop := ∃ (C : String) (T : u_T) (N : Nat) (tf : Nat → FieldType), cl_L[ci]? = some (C, T, N) ∧ j < N ∧ (∀ w ∈ u_ws C T N, w ∈ gd_L) ∧ (∀ k, k < N → parseFieldDescriptor (T k).2.2.1 = some (tf k)) ∧ (∀ a, a < N → ∀ b, b < N → a ≠ b → (T a).2.1 ≠ (T b).2.1) ∧ parseFieldDescriptor (T j).2.2.1 = some ty ∧ (T j).2.2.2 = true ∧ (T j).1 = own ∧ Cond.fieldLink own idx (T j).1 (T j).2.1 (T j).2.2.1 ∈ gd_L
theorem jv_get (C : Cx Γ cc nL own ω hh mT sT) {idx ci j a : Nat} {v : Value} (fa : jv_FA own idx ci j) (d : decode cc pc = .ok (.getfield idx, 3)) (hv : mm_gV M a ci j = some v) (kk : JJ Γ Q nL ω k M ce sl (pc + 3) lv (v :: st)) : JJ Γ Q nL ω k M ce sl pc lv (.ref a :: st) := by
  obtain ⟨hx, hb, hml, hown, hts, hKW, hlk, hbs, hR⟩ := C
  intro H locs ls hl hP hz hS
  obtain ⟨fs, h1, h2⟩ := mm_gV_spec hv
  obtain ⟨C, T, N, hc, hj, hin, hlink⟩ := fa
  have h3 : (fs.map (sh ω))[j]? = some (sh ω v) := by simp [h2]
  rcases hlink with hlink | ⟨host, hlink⟩
  · exact va_get (D := ω.2.2.2) (ci := ci) (v := sh ω v) (C := C) (T := T) (N := N) hx hb hts hin hown hKW.1 hP a (toW_at h1) hc j hj (hts _ hlink) (fun _ h9 => h9) h3 d (kk H locs ls hl hP hz hS)
  · exact va_getN (D := ω.2.2.2) (ci := ci) (v := sh ω v) (C := C) (T := T) (N := N) hx hb hts hin hown hKW.1 hP a (toW_at h1) hc j hj (va_Nw.use rfl (hKW.2.1 _ hlink)) (fun _ h9 => h9) h3 d (kk H locs ls hl hP hz hS)
theorem jv_put (C : Cx Γ cc nL own ω hh mT sT) {idx ci j a : Nat} {v : Value} {ty : FieldType} {M' : Mem} (fp : jv_FP own idx ci j ty) (d : decode cc pc = .ok (.putfield idx, 3)) (hv : mm_pV M a ci j v = some M') (hn : narrow ty (sh ω v) = sh ω v) (hfit : fits ty (sh ω v) = true) (kk : JJ Γ Q nL ω k M' ce sl (pc + 3) lv st) : JJ Γ Q nL ω k M ce sl pc lv (v :: .ref a :: st) := by
  obtain ⟨hx, hb, hml, hown, hts, hKW, hlk, hbs, hR⟩ := C
  intro H locs ls hl hP hz hS
  obtain ⟨fs, h1, h2, rfl⟩ := mm_pV_spec hv
  obtain ⟨C, T, N, tf, hc, hj, hin, hty, hnm, hd, hfin, hlink⟩ := fp
  have hset : (toW ω M).set a (wz ω + a, .inr (ci, (fs.map (sh ω)).set j (sh ω v))) = toW ω (M.set a (.inr (ci, fs.set j v))) := by
    rw [← toW_set]
    simp [shE, List.map_set]
  have hsz : H.size = wz ω + (M.set a (.inr (ci, fs.set j v)) : Mem).length + k := by rw [List.length_set]; exact hz
  have hlink' : (Cond.fieldLink own idx (T j).1 (T j).2.1 (T j).2.2.1).before Γ.args Γ.s = true ∨ ∃ host, (Cond.fieldLinkNest own idx (T j).1 (T j).2.1 (T j).2.2.1 host).before Γ.args Γ.s = true := hlink.elim (fun h => Or.inl (hts _ h)) (fun ⟨host, h⟩ => Or.inr ⟨host, va_Nw.use rfl (hKW.2.1 _ h)⟩)
  refine mp_put (D := ω.2.2.2) (ci := ci) (v := sh ω v) (C := C) (T := T) (N := N) hx hb hts hin tf hty hnm hown hKW.1 hP toW_D hS a (toW_at h1) hc j hj hlink' (fun _ h9 => h9) hfin hd hn hfit (by simpa using h2) d (fun H1 locs1 hP1 hz1 hS1 => ?_)
  rw [hset] at hP1
  exact kk H1 locs1 ls hl hP1 (by rw [hz1]; exact hsz) hS1
theorem jv_putFn (C : Cx Γ cc nL own ω hh mT sT) {idx ci j a : Nat} {v : Value} {ty : FieldType} {M' : Mem} (fp : jv_FF own idx ci j ty) (hin2 : Γ.meth.name = "<init>") (d : decode cc pc = .ok (.putfield idx, 3)) (hv : mm_pV M a ci j v = some M') (hn : narrow ty (sh ω v) = sh ω v) (hfit : fits ty (sh ω v) = true) (kk : JJ Γ Q nL ω k M' ce sl (pc + 3) lv st) : JJ Γ Q nL ω k M ce sl pc lv (v :: .ref a :: st) := by
  obtain ⟨hx, hb, hml, hown, hts, hKW, hlk, hbs, hR⟩ := C
  intro H locs ls hl hP hz hS
  obtain ⟨fs, h1, h2, rfl⟩ := mm_pV_spec hv
  obtain ⟨C, T, N, tf, hc, hj, hin, hty, hnm, hd, hfin, hdecl, hlink⟩ := fp
  have hset : (toW ω M).set a (wz ω + a, .inr (ci, (fs.map (sh ω)).set j (sh ω v))) = toW ω (M.set a (.inr (ci, fs.set j v))) := by
    rw [← toW_set]
    simp [shE, List.map_set]
  have hsz : H.size = wz ω + (M.set a (.inr (ci, fs.set j v)) : Mem).length + k := by rw [List.length_set]; exact hz
  refine mp_putF (D := ω.2.2.2) (ci := ci) (v := sh ω v) (C := C) (T := T) (N := N) hx hb hts hin tf hty hnm hown hKW.1 hP toW_D hS a (toW_at h1) hc j hj (hts _ hlink) (fun _ h9 => h9) hfin hin2 hdecl hd hn hfit (by simpa using h2) d (fun H1 locs1 hP1 hz1 hS1 => ?_)
  rw [hset] at hP1
  exact kk H1 locs1 ls hl hP1 (by rw [hz1]; exact hsz) hS1
theorem jv_getI (C : Cx Γ cc nL own ω hh mT sT) {idx ci j a : Nat} (fa : jv_FA own idx ci j) (d : decode cc pc = .ok (.getfield idx, 3)) {K : Int32 → Option ρ} (h : (mm_gI M a ci j).bind K = some res) (kk : ∀ v, K v = some res → JJ Γ Q nL ω k M ce sl (pc + 3) lv (.int v :: st)) : JJ Γ Q nL ω k M ce sl pc lv (.ref a :: st) := by
  obtain ⟨v, h1, h2⟩ := Option.bind_eq_some_iff.mp h
  exact jv_get C fa d (mm_gI_spec h1) (kk v h2)
theorem jv_getL (C : Cx Γ cc nL own ω hh mT sT) {idx ci j a : Nat} (fa : jv_FA own idx ci j) (d : decode cc pc = .ok (.getfield idx, 3)) {K : Int64 → Option ρ} (h : (mm_gL M a ci j).bind K = some res) (kk : ∀ v, K v = some res → JJ Γ Q nL ω k M ce sl (pc + 3) lv (.long v :: st)) : JJ Γ Q nL ω k M ce sl pc lv (.ref a :: st) := by
  obtain ⟨v, h1, h2⟩ := Option.bind_eq_some_iff.mp h
  exact jv_get C fa d (mm_gL_spec h1) (kk v h2)
theorem jv_getR (C : Cx Γ cc nL own ω hh mT sT) {idx ci j a : Nat} (fa : jv_FA own idx ci j) (d : decode cc pc = .ok (.getfield idx, 3)) {K : Nat → Option ρ} (h : (mm_gR M a ci j).bind K = some res) (kk : ∀ v, K v = some res → JJ Γ Q nL ω k M ce sl (pc + 3) lv (.ref v :: st)) : JJ Γ Q nL ω k M ce sl pc lv (.ref a :: st) := by
  obtain ⟨v, h1, h2⟩ := Option.bind_eq_some_iff.mp h
  exact jv_get C fa d (mm_gR_spec h1) (kk v h2)
theorem jv_putI (C : Cx Γ cc nL own ω hh mT sT) {idx ci j a : Nat} {x : Int32} (fp : jv_FP own idx ci j .int) (d : decode cc pc = .ok (.putfield idx, 3)) {K : Mem → Option ρ} (h : (mm_pV M a ci j (.int x)).bind K = some res) (kk : ∀ M, K M = some res → JJ Γ Q nL ω k M ce sl (pc + 3) lv st) : JJ Γ Q nL ω k M ce sl pc lv (.int x :: .ref a :: st) := by
  obtain ⟨v, h1, h2⟩ := Option.bind_eq_some_iff.mp h
  exact jv_put C fp d h1 rfl rfl (kk v h2)
theorem jv_putL (C : Cx Γ cc nL own ω hh mT sT) {idx ci j a : Nat} {x : Int64} (fp : jv_FP own idx ci j .long) (d : decode cc pc = .ok (.putfield idx, 3)) {K : Mem → Option ρ} (h : (mm_pV M a ci j (.long x)).bind K = some res) (kk : ∀ M, K M = some res → JJ Γ Q nL ω k M ce sl (pc + 3) lv st) : JJ Γ Q nL ω k M ce sl pc lv (.long x :: .ref a :: st) := by
  obtain ⟨v, h1, h2⟩ := Option.bind_eq_some_iff.mp h
  exact jv_put C fp d h1 rfl rfl (kk v h2)
theorem jv_putZ (C : Cx Γ cc nL own ω hh mT sT) {idx ci j a : Nat} {x : Int32} (fp : jv_FP own idx ci j .boolean) (d : decode cc pc = .ok (.putfield idx, 3)) {K : Mem → Option ρ} (h : (mm_pZ M a ci j x).bind K = some res) (kk : ∀ M, K M = some res → JJ Γ Q nL ω k M ce sl (pc + 3) lv st) : JJ Γ Q nL ω k M ce sl pc lv (.int x :: .ref a :: st) := by
  obtain ⟨v, h1, h2⟩ := Option.bind_eq_some_iff.mp h
  unfold mm_pZ at h1
  split at h1
  · rename_i hx
    rcases hx with rfl | rfl
    · exact jv_put C fp d h1 rfl rfl (kk v h2)
    · exact jv_put C fp d h1 rfl rfl (kk v h2)
  · cases h1
theorem jv_putR (C : Cx Γ cc nL own ω hh mT sT) {idx ci j a x : Nat} {ty : FieldType} (fp : jv_FP own idx ci j ty) (d : decode cc pc = .ok (.putfield idx, 3)) (hn : ∀ q : Nat, narrow ty (.ref q) = .ref q ∧ fits ty (.ref q) = true) {K : Mem → Option ρ} (h : (mm_pV M a ci j (.ref x)).bind K = some res) (kk : ∀ M, K M = some res → JJ Γ Q nL ω k M ce sl (pc + 3) lv st) : JJ Γ Q nL ω k M ce sl pc lv (.ref x :: .ref a :: st) := by
  obtain ⟨v, h1, h2⟩ := Option.bind_eq_some_iff.mp h
  exact jv_put C fp d h1 (hn _).1 (hn _).2 (kk v h2)
theorem jv_putFR (C : Cx Γ cc nL own ω hh mT sT) {idx ci j a x : Nat} {ty : FieldType} (fp : jv_FF own idx ci j ty) (hin2 : Γ.meth.name = "<init>") (d : decode cc pc = .ok (.putfield idx, 3)) (hn : ∀ q : Nat, narrow ty (.ref q) = .ref q ∧ fits ty (.ref q) = true) {K : Mem → Option ρ} (h : (mm_pV M a ci j (.ref x)).bind K = some res) (kk : ∀ M, K M = some res → JJ Γ Q nL ω k M ce sl (pc + 3) lv st) : JJ Γ Q nL ω k M ce sl pc lv (.ref x :: .ref a :: st) := by
  obtain ⟨v, h1, h2⟩ := Option.bind_eq_some_iff.mp h
  exact jv_putFn C fp hin2 d h1 (hn _).1 (hn _).2 (kk v h2)
/-! arrays -/
theorem jv_alen (C : Cx Γ cc nL own ω hh mT sT) {a : Nat} (d : decode cc pc = .ok (.arraylength, 1)) {K : Int32 → Option ρ} (h : (mm_aN M a).bind K = some res) (kk : ∀ v, K v = some res → JJ Γ Q nL ω k M ce sl (pc + 1) lv (.int v :: st)) : JJ Γ Q nL ω k M ce sl pc lv (.ref a :: st) := by
  obtain ⟨hx, hb, hml, hown, hts, hKW, hlk, hbs, hR⟩ := C
  intro H locs ls hl hP hz hS
  obtain ⟨v, h1, h2⟩ := Option.bind_eq_some_iff.mp h
  obtain ⟨t, n, f, h3, h4, h5⟩ := mm_aN_spec h1
  have h6 : (shA ω (n, f)).1 = n := by unfold shA; split <;> simp_all
  obtain ⟨ty, hty⟩ : ∃ ty, (ty_L ω)[t]? = some (ω.2.2.1 t, ty) := by
    rcases (show t = 0 ∨ t = 1 ∨ t = 2 ∨ t = 3 ∨ t = 4 by omega) with rfl | rfl | rfl | rfl | rfl <;> exact ⟨_, rfl⟩
  exact va_alen (D := ω.2.2.2) hx hb hKW.1 hP a t (toW_at h3) hty (v := v) (by rw [h6]; exact h5) d (kk v h2 H locs ls hl hP hz hS)
theorem jv_iald (C : Cx Γ cc nL own ω hh mT sT) {a : Nat} {i : Int32} (d : decode cc pc = .ok (.iaload, 1)) {K : Int32 → Option ρ} (h : (mm_aI M a 0 i).bind K = some res) (kk : ∀ v, K v = some res → JJ Γ Q nL ω k M ce sl (pc + 1) lv (.int v :: st)) : JJ Γ Q nL ω k M ce sl pc lv (.int i :: .ref a :: st) := by
  obtain ⟨hx, hb, hml, hown, hts, hKW, hlk, hbs, hR⟩ := C
  intro H locs ls hl hP hz hS
  obtain ⟨v, h1, h2⟩ := Option.bind_eq_some_iff.mp h
  obtain ⟨n, f, h3, h4, rfl⟩ := mm_aI_spec h1
  exact va_iald (D := ω.2.2.2) hx hb hKW.1 hP a 0 (toW_at h3) rfl h4 d (kk _ h2 H locs ls hl hP hz hS)
theorem jv_bald (C : Cx Γ cc nL own ω hh mT sT) {a : Nat} {i : Int32} (d : decode cc pc = .ok (.baload, 1)) {K : Int32 → Option ρ} (h : (mm_aI M a 2 i).bind K = some res) (kk : ∀ v, K v = some res → JJ Γ Q nL ω k M ce sl (pc + 1) lv (.int v :: st)) : JJ Γ Q nL ω k M ce sl pc lv (.int i :: .ref a :: st) := by
  obtain ⟨hx, hb, hml, hown, hts, hKW, hlk, hbs, hR⟩ := C
  intro H locs ls hl hP hz hS
  obtain ⟨v, h1, h2⟩ := Option.bind_eq_some_iff.mp h
  obtain ⟨n, f, h3, h4, rfl⟩ := mm_aI_spec h1
  exact va_bald (D := ω.2.2.2) hx hb hKW.1 hP a 2 (toW_at h3) rfl h4 d (kk _ h2 H locs ls hl hP hz hS)
theorem jv_zald (C : Cx Γ cc nL own ω hh mT sT) {a : Nat} {i : Int32} (d : decode cc pc = .ok (.baload, 1)) {K : Int32 → Option ρ} (h : (mm_aI M a 3 i).bind K = some res) (kk : ∀ v, K v = some res → JJ Γ Q nL ω k M ce sl (pc + 1) lv (.int v :: st)) : JJ Γ Q nL ω k M ce sl pc lv (.int i :: .ref a :: st) := by
  obtain ⟨hx, hb, hml, hown, hts, hKW, hlk, hbs, hR⟩ := C
  intro H locs ls hl hP hz hS
  obtain ⟨v, h1, h2⟩ := Option.bind_eq_some_iff.mp h
  obtain ⟨n, f, h3, h4, rfl⟩ := mm_aI_spec h1
  exact va_zald (D := ω.2.2.2) hx hb hKW.1 hP a 3 (toW_at h3) rfl h4 d (kk _ h2 H locs ls hl hP hz hS)
theorem jv_lald (C : Cx Γ cc nL own ω hh mT sT) {a : Nat} {i : Int32} (d : decode cc pc = .ok (.laload, 1)) {K : Int64 → Option ρ} (h : (mm_aL M a i).bind K = some res) (kk : ∀ v, K v = some res → JJ Γ Q nL ω k M ce sl (pc + 1) lv (.long v :: st)) : JJ Γ Q nL ω k M ce sl pc lv (.int i :: .ref a :: st) := by
  obtain ⟨hx, hb, hml, hown, hts, hKW, hlk, hbs, hR⟩ := C
  intro H locs ls hl hP hz hS
  obtain ⟨v, h1, h2⟩ := Option.bind_eq_some_iff.mp h
  obtain ⟨n, f, h3, h4, rfl⟩ := mm_aL_spec h1
  exact va_lald (D := ω.2.2.2) hx hb hKW.1 hP a 1 (toW_at h3) rfl h4 d (kk _ h2 H locs ls hl hP hz hS)
theorem jv_aald (C : Cx Γ cc nL own ω hh mT sT) {a : Nat} {i : Int32} (d : decode cc pc = .ok (.aaload, 1)) {K : Nat → Option ρ} (h : (mm_aR M a i).bind K = some res) (kk : ∀ v, K v = some res → JJ Γ Q nL ω k M ce sl (pc + 1) lv (.ref v :: st)) : JJ Γ Q nL ω k M ce sl pc lv (.int i :: .ref a :: st) := by
  obtain ⟨hx, hb, hml, hown, hts, hKW, hlk, hbs, hR⟩ := C
  intro H locs ls hl hP hz hS
  obtain ⟨v, h1, h2⟩ := Option.bind_eq_some_iff.mp h
  obtain ⟨n, f, h3, h4, h5⟩ := mm_aR_spec h1
  refine va_aldq (D := ω.2.2.2) hx hb hKW.1 hP a 4 (toW_at h3) rfl h4 d ?_
  rw [h5]
  exact kk _ h2 H locs ls hl hP hz hS
theorem jv_iast (C : Cx Γ cc nL own ω hh mT sT) {a : Nat} {i x : Int32} (d : decode cc pc = .ok (.iastore, 1)) {K : Mem → Option ρ} (h : (mm_sI M a 0 i x).bind K = some res) (kk : ∀ M, K M = some res → JJ Γ Q nL ω k M ce sl (pc + 1) lv st) : JJ Γ Q nL ω k M ce sl pc lv (.int x :: .int i :: .ref a :: st) := by
  obtain ⟨hx, hb, hml, hown, hts, hKW, hlk, hbs, hR⟩ := C
  intro H locs ls hl hP hz hS
  obtain ⟨v, h1, h2⟩ := Option.bind_eq_some_iff.mp h
  obtain ⟨n, f, h3, h4, rfl⟩ := mm_sI_spec h1
  refine mp_iast (D := ω.2.2.2) hx hb hKW.1 hP toW_D hS a 0 (toW_at h3) rfl h4 d (fun H1 locs1 hP1 hz1 hS1 => ?_)
  exact kk _ h2 H1 locs1 ls hl (by rw [← toW_set]; exact hP1) (by rw [List.length_set, hz1]; exact hz) hS1
theorem jv_bast (C : Cx Γ cc nL own ω hh mT sT) {a : Nat} {i x : Int32} (d : decode cc pc = .ok (.bastore, 1)) {K : Mem → Option ρ} (h : (mm_sI M a 2 i (vp_nar .byte x)).bind K = some res) (kk : ∀ M, K M = some res → JJ Γ Q nL ω k M ce sl (pc + 1) lv st) : JJ Γ Q nL ω k M ce sl pc lv (.int x :: .int i :: .ref a :: st) := by
  obtain ⟨hx, hb, hml, hown, hts, hKW, hlk, hbs, hR⟩ := C
  intro H locs ls hl hP hz hS
  obtain ⟨v, h1, h2⟩ := Option.bind_eq_some_iff.mp h
  obtain ⟨n, f, h3, h4, rfl⟩ := mm_sI_spec h1
  refine mp_bast (D := ω.2.2.2) hx hb hKW.1 hP toW_D hS a 2 (toW_at h3) rfl h4 d (fun H1 locs1 hP1 hz1 hS1 => ?_)
  exact kk _ h2 H1 locs1 ls hl (by rw [← toW_set]; exact hP1) (by rw [List.length_set, hz1]; exact hz) hS1
theorem jv_zast (C : Cx Γ cc nL own ω hh mT sT) {a : Nat} {i x : Int32} (d : decode cc pc = .ok (.bastore, 1)) {K : Mem → Option ρ} (h : (mm_sI M a 3 i (vp_nar .boolean x)).bind K = some res) (kk : ∀ M, K M = some res → JJ Γ Q nL ω k M ce sl (pc + 1) lv st) : JJ Γ Q nL ω k M ce sl pc lv (.int x :: .int i :: .ref a :: st) := by
  obtain ⟨hx, hb, hml, hown, hts, hKW, hlk, hbs, hR⟩ := C
  intro H locs ls hl hP hz hS
  obtain ⟨v, h1, h2⟩ := Option.bind_eq_some_iff.mp h
  obtain ⟨n, f, h3, h4, rfl⟩ := mm_sI_spec h1
  refine mp_zast (D := ω.2.2.2) hx hb hKW.1 hP toW_D hS a 3 (toW_at h3) rfl h4 d (fun H1 locs1 hP1 hz1 hS1 => ?_)
  exact kk _ h2 H1 locs1 ls hl (by rw [← toW_set]; exact hP1) (by rw [List.length_set, hz1]; exact hz) hS1
theorem jv_last (C : Cx Γ cc nL own ω hh mT sT) {a : Nat} {i : Int32} {x : Int64} (d : decode cc pc = .ok (.lastore, 1)) {K : Mem → Option ρ} (h : (mm_sL M a i x).bind K = some res) (kk : ∀ M, K M = some res → JJ Γ Q nL ω k M ce sl (pc + 1) lv st) : JJ Γ Q nL ω k M ce sl pc lv (.long x :: .int i :: .ref a :: st) := by
  obtain ⟨hx, hb, hml, hown, hts, hKW, hlk, hbs, hR⟩ := C
  intro H locs ls hl hP hz hS
  obtain ⟨v, h1, h2⟩ := Option.bind_eq_some_iff.mp h
  obtain ⟨n, f, h3, h4, rfl⟩ := mm_sL_spec h1
  refine mp_last (D := ω.2.2.2) hx hb hKW.1 hP toW_D hS a 1 (toW_at h3) rfl h4 d (fun H1 locs1 hP1 hz1 hS1 => ?_)
  exact kk _ h2 H1 locs1 ls hl (by rw [← toW_set]; exact hP1) (by rw [List.length_set, hz1]; exact hz) hS1
theorem jv_aast (C : Cx Γ cc nL own ω hh mT sT) {a x : Nat} {i : Int32} (d : decode cc pc = .ok (.aastore, 1)) {K : Mem → Option ρ} (h : (mm_sR M a i x).bind K = some res) (kk : ∀ M, K M = some res → JJ Γ Q nL ω k M ce sl (pc + 1) lv st) : JJ Γ Q nL ω k M ce sl pc lv (.ref x :: .int i :: .ref a :: st) := by
  obtain ⟨hx, hb, hml, hown, hts, hKW, hlk, hbs, hR⟩ := C
  intro H locs ls hl hP hz hS
  obtain ⟨v, h1, h2⟩ := Option.bind_eq_some_iff.mp h
  obtain ⟨n, f, fs, h3, h4, h5, rfl⟩ := mm_sR_spec h1
  refine mp_astq (D := ω.2.2.2) (r := (RX7, TX7, 15)) hx hb hKW.1 hP toW_D hS a 4 x 7 (toW_at h3) rfl (toW_at h5) rfl h4 d (fun H1 locs1 hP1 hz1 hS1 => ?_)
  refine kk _ h2 H1 locs1 ls hl ?_ (by rw [List.length_set, hz1]; exact hz) hS1
  rw [← toW_set]
  have e : (fun j => ((va_up f i.toNatClampNeg (some x)) j).map (fun a => wz ω + a)) = va_up (fun j => (f j).map (fun a => wz ω + a)) i.toNatClampNeg (some (wz ω + x)) := by
    funext j
    unfold va_up
    split <;> rfl
  show va_P _ _ (List.set (toW ω M) a (wz ω + a, .inl (ω.2.2.1 4, n, .inr (.inr (.inr (.inr (fun j => ((va_up f i.toNatClampNeg (some x)) j).map (fun a => wz ω + a)))))))) H1
  rw [e]
  exact hP1
theorem jv_acopy (C : Cx Γ cc nL own ω (hh + 1) mT sT) {idx a0 a : Nat} {sp dp n : Int32} (g1 : Cond.methodLink own idx arraycopyName ∈ gd_L) (g2 : Cond.native arraycopyName ∈ gd_L) (g3 : Cond.static arraycopyName ∈ gd_L) (g4 : Cond.initialized "java/lang/System" ∈ gd_L) (d : decode cc pc = .ok (.invokestatic idx, 3)) (hst : (st.map fun v => v.category).sum + (nativeFrameWords "java/lang/System" "arraycopy" 5 + 11) ≤ 100) {K : Mem → Option ρ} (h : (mm_cp M a0 sp a dp n).bind K = some res) (kk : ∀ M, K M = some res → JJ Γ Q nL ω k M ce sl (pc + 3) lv st) : JJ Γ Q nL ω k M ce sl pc lv (.int n :: .int dp :: .ref a :: .int sp :: .ref a0 :: st) := by
  obtain ⟨hx, hb, hml, hown, hts, hKW, hlk, hbs, hR⟩ := C
  intro H locs ls hl hP hz hS
  obtain ⟨v, h1, h2⟩ := Option.bind_eq_some_iff.mp h
  obtain ⟨n0, f, n1, g, q1, q2, q3, q4, q5, q6, q7, rfl⟩ := mm_cp_spec h1
  have hcat : ((st.map (sh ω)).map fun v => v.category).sum = (st.map fun v => v.category).sum := by
    rw [List.map_map]; congr 2; funext v; exact sh_cat ω v
  refine mp_copyi (D := ω.2.2.2) hx hb (by rw [hml, hl.1]) hown (hts _ g1) (hts _ g2) (hts _ g3) (hts _ g4) hKW.1 hP toW_D hS a0 a 0 0 (toW_at q1) (toW_at q2) rfl rfl rfl q3 q4 q5 q6 q7 (fun _ _ => rfl) (by rw [hR]; exact Nat.succ_le_succ (Nat.zero_le _)) (by rw [hR, hcat]; show _ ≤ 100 * (hh + 1); omega) d (fun H1 locs1 hP1 hz1 hS1 => ?_)
  exact kk _ h2 H1 locs1 ls hl (by rw [← toW_set]; exact hP1) (by rw [List.length_set, hz1]; exact hz) hS1
/-! new cells (no cell beside the small heap may lie behind it: k = 0) -/
theorem jv_new (C : Cx Γ cc nL own ω hh mT sT) {idx ci N : Nat} {Cn : String} {T : u_T} {fs : List Value} (hc : cl_L[ci]? = some (Cn, T, N)) (hin : ∀ w ∈ u_ws Cn T N, w ∈ gd_L) (tf : Nat → FieldType) (hty : ∀ k, k < N → parseFieldDescriptor (T k).2.2.1 = some (tf k)) (g1 : Cond.classLink own idx Cn ∈ gd_L) (g2 : Cond.instantiable Cn N ∈ gd_L) (g3 : Cond.initialized Cn ∈ gd_L) (hfs : ∀ j, j < N → defaultValue (tf j) = vp_V (fs.map (sh ω)) j) (hce : ce + 1 ≤ mT) (hsl : sl + N ≤ sT) (d : decode cc pc = .ok (.new idx, 3)) (kk : JJ Γ Q nL ω 0 (M ++ [.inr (ci, fs)]) (ce + 1) (sl + N) (pc + 3) lv (.ref M.length :: st)) : JJ Γ Q nL ω 0 M ce sl pc lv st := by
  obtain ⟨hx, hb, hml, hown, hts, hKW, hlk, hbs, hR⟩ := C
  intro H locs ls hl hP hz hS
  refine mp_new (D := ω.2.2.2) (ci := ci) (fs := fs.map (sh ω)) (C := Cn) (T := T) (N := N) hx hb hts hin tf hty hown (hts _ g1) (hts _ g2) (hts _ g3) hKW.1 hP hS hc hfs (by rw [hR]; exact hce) (by rw [hR]; exact hsl) d (fun H1 hP1 hz1 hS1 => ?_)
  have e : H.size = wz ω + M.length := by rw [hz]; omega
  rw [e] at hP1 hz1 ⊢
  exact kk H1 locs ls hl (by rw [toW_app]; exact hP1) (by rw [hz1, List.length_append]; rfl) hS1
theorem jv_newa (C : Cx Γ cc nL own ω hh mT sT) {t lim by_ : Nat} {n : Int32} {at_ : ArrayType} {ty : FieldType} {a0 : Nat → vp_A} (g1 : Cond.arrayClass (newarray.typeOf at_) ∈ gd_L) (hty : newarray.typeOf at_ = ty) (ht : (ty_L ω)[t]? = some (ω.2.2.1 t, ty)) (hob : va_RA Γ.s (ω.2.2.1 t) ty → Γ.s.vm.findClass ("[" ++ ty.toString) = some (ω.2.2.1 t)) (ha : ∀ (N : Nat) (cA : ClassId), vp_cell cA (shA ω (a0 N)) = arrV cA N (fun _ => defaultValue ty)) (hby : componentBytes ty = by_) (hlim : lim * by_ ≤ 536870912) (hce : ce + 1 ≤ mT) (hsl : sl + lim ≤ sT) (d : decode cc pc = .ok (.newarray at_, 2)) {K : Nat × Mem → Option ρ} (h : (mm_nA M lim n (fun N => .inl (t, a0 N))).bind K = some res) (kk : ∀ a M, K (a, M) = some res → JJ Γ Q nL ω 0 M (ce + 1) (sl + lim) (pc + 2) lv (.ref a :: st)) : JJ Γ Q nL ω 0 M ce sl pc lv (.int n :: st) := by
  obtain ⟨hx, hb, hml, hown, hts, hKW, hlk, hbs, hR⟩ := C
  intro H locs ls hl hP hz hS
  obtain ⟨⟨a, M'⟩, h1, h2⟩ := Option.bind_eq_some_iff.mp h
  unfold mm_nA at h1
  split at h1
  · cases h1
  rename_i hn
  cases h1
  have hn1 : ¬ n < 0 := fun q => hn (Or.inl q)
  have hn2 : n.toNatClampNeg ≤ lim := Nat.not_lt.mp fun q => hn (Or.inr q)
  have hcA := hob (hKW.1.2 t _ ht).2
  refine mp_newa (D := ω.2.2.2) hx hb (hts _ g1) hty hP hS hcA (a0 := shA ω (a0 n.toNatClampNeg)) (ha _) hn1 rfl (by rw [hby]; exact Nat.le_trans (Nat.mul_le_mul_right _ hn2) hlim) (by rw [hR]; exact hce) (by rw [hR]; show sl + _ ≤ sT; omega) d (fun H1 hP1 hz1 hS1 => ?_)
  have e : H.size = wz ω + M.length := by rw [hz]; omega
  rw [e] at hP1 hz1 ⊢
  refine W.widen (k := ce + 1) (n := sl + lim) (Nat.le_refl _) (by omega) ?_
  exact kk _ _ h2 H1 locs ls hl (by rw [toW_app]; exact hP1) (by rw [hz1, List.length_append]; rfl) hS1
theorem jv_newq (C : Cx Γ cc nL own ω hh mT sT) {idx lim : Nat} {n : Int32} (g1 : Cond.classLink own idx "CoinSorter$State" ∈ gd_L) (hlim : lim * 4 ≤ 536870912) (hce : ce + 1 ≤ mT) (hsl : sl + lim ≤ sT) (d : decode cc pc = .ok (.anewarray idx, 3)) {K : Nat × Mem → Option ρ} (h : (mm_nA M lim n (fun N => .inl (4, N, .inr (.inr (.inr (.inr (fun _ => none))))))).bind K = some res) (kk : ∀ a M, K (a, M) = some res → JJ Γ Q nL ω 0 M (ce + 1) (sl + lim) (pc + 3) lv (.ref a :: st)) : JJ Γ Q nL ω 0 M ce sl pc lv (.int n :: st) := by
  obtain ⟨hx, hb, hml, hown, hts, hKW, hlk, hbs, hR⟩ := C
  intro H locs ls hl hP hz hS
  obtain ⟨⟨a, M'⟩, h1, h2⟩ := Option.bind_eq_some_iff.mp h
  unfold mm_nA at h1
  split at h1
  · cases h1
  rename_i hn
  cases h1
  have hn1 : ¬ n < 0 := fun q => hn (Or.inl q)
  have hn2 : n.toNatClampNeg ≤ lim := Nat.not_lt.mp fun q => hn (Or.inr q)
  obtain ⟨kA, comp, k1, k2, k3, k4⟩ := (hKW.1.2 4 (ω.2.2.1 4, .object "CoinSorter$State") rfl).2
  refine mp_newq (D := ω.2.2.2) hx hb hown (hts _ g1) (va_AO.use hKW.2.2.1) hP hS k4 hn1 rfl (Nat.le_trans (Nat.mul_le_mul_right _ hn2) hlim) (by rw [hR]; exact hce) (by rw [hR]; show sl + _ ≤ sT; omega) d (fun H1 hP1 hz1 hS1 => ?_)
  have e : H.size = wz ω + M.length := by rw [hz]; omega
  rw [e] at hP1 hz1 ⊢
  refine W.widen (k := ce + 1) (n := sl + lim) (Nat.le_refl _) (by omega) ?_
  exact kk _ _ h2 H1 locs ls hl (by rw [toW_app]; exact hP1) (by rw [hz1, List.length_append]; rfl) hS1
/-! Math -/
theorem jv_mmax (C : Cx Γ cc nL own ω (hh + 1) mT sT) {idx : Nat} {x y : Int32} (g1 : Cond.methodLink own idx Lib.Math.max.name ∈ gd_L) (g2 : Cond.static Lib.Math.max.name ∈ gd_L) (g3 : Cond.initialized "java/lang/Math" ∈ gd_L) (g4 : Cond.code Lib.Math.max.name Lib.Math.max.code 2 (some .int) ∈ gd_L) (hce : ce ≤ mT) (hsl : sl ≤ sT) (hst : (st.map fun v => v.category).sum + 13 ≤ 100) (d : decode cc pc = .ok (.invokestatic idx, 3)) (kk : JJ Γ Q nL ω k M ce sl (pc + 3) lv (.int (if x < y then y else x) :: st)) : JJ Γ Q nL ω k M ce sl pc lv (.int y :: .int x :: st) := by
  obtain ⟨hx, hb, hml, hown, hts, hKW, hlk, hbs, hR⟩ := C
  intro H locs ls hl hP hz hS
  have hcat : ((st.map (sh ω)).map fun v => v.category).sum = (st.map fun v => v.category).sum := by
    rw [List.map_map]; congr 2; funext v; exact sh_cat ω v
  exact va_mmax hx hb (by rw [hml, hl.1]) hown (hts _ g1) (hts _ g2) (hts _ g3) (hts _ g4) (by rw [hR]; exact Nat.succ_le_succ (Nat.zero_le _)) (by rw [hR, hcat]; show _ ≤ 100 * (hh + 1); omega) (by rw [hR]; exact hce) (by rw [hR]; exact hsl) d (kk H locs ls hl hP hz hS)
theorem jv_mmin (C : Cx Γ cc nL own ω (hh + 1) mT sT) {idx : Nat} {x y : Int32} (g1 : Cond.methodLink own idx Lib.Math.min.name ∈ gd_L) (g2 : Cond.static Lib.Math.min.name ∈ gd_L) (g3 : Cond.initialized "java/lang/Math" ∈ gd_L) (g4 : Cond.code Lib.Math.min.name Lib.Math.min.code 2 (some .int) ∈ gd_L) (hce : ce ≤ mT) (hsl : sl ≤ sT) (hst : (st.map fun v => v.category).sum + 13 ≤ 100) (d : decode cc pc = .ok (.invokestatic idx, 3)) (kk : JJ Γ Q nL ω k M ce sl (pc + 3) lv (.int (if y < x then y else x) :: st)) : JJ Γ Q nL ω k M ce sl pc lv (.int y :: .int x :: st) := by
  obtain ⟨hx, hb, hml, hown, hts, hKW, hlk, hbs, hR⟩ := C
  intro H locs ls hl hP hz hS
  have hcat : ((st.map (sh ω)).map fun v => v.category).sum = (st.map fun v => v.category).sum := by
    rw [List.map_map]; congr 2; funext v; exact sh_cat ω v
  exact va_mmin hx hb (by rw [hml, hl.1]) hown (hts _ g1) (hts _ g2) (hts _ g3) (hts _ g4) (by rw [hR]; exact Nat.succ_le_succ (Nat.zero_le _)) (by rw [hR, hcat]; show _ ≤ 100 * (hh + 1); omega) (by rw [hR]; exact hce) (by rw [hR]; exact hsl) d (kk H locs ls hl hP hz hS)
theorem jv_mabs (C : Cx Γ cc nL own ω (hh + 1) mT sT) {idx : Nat} {x : Int32} (g1 : Cond.methodLink own idx Lib.Math.abs.name ∈ gd_L) (g2 : Cond.static Lib.Math.abs.name ∈ gd_L) (g3 : Cond.initialized "java/lang/Math" ∈ gd_L) (g4 : Cond.code Lib.Math.abs.name Lib.Math.abs.code 1 (some .int) ∈ gd_L) (hce : ce ≤ mT) (hsl : sl ≤ sT) (hst : (st.map fun v => v.category).sum + 13 ≤ 100) (d : decode cc pc = .ok (.invokestatic idx, 3)) (kk : JJ Γ Q nL ω k M ce sl (pc + 3) lv (.int (if 0 ≤ x then x else 0 - x) :: st)) : JJ Γ Q nL ω k M ce sl pc lv (.int x :: st) := by
  obtain ⟨hx, hb, hml, hown, hts, hKW, hlk, hbs, hR⟩ := C
  intro H locs ls hl hP hz hS
  have hcat : ((st.map (sh ω)).map fun v => v.category).sum = (st.map fun v => v.category).sum := by
    rw [List.map_map]; congr 2; funext v; exact sh_cat ω v
  exact va_mabs hx hb (by rw [hml, hl.1]) hown (hts _ g1) (hts _ g2) (hts _ g3) (hts _ g4) (by rw [hR]; exact Nat.succ_le_succ (Nat.zero_le _)) (by rw [hR, hcat]; show _ ≤ 100 * (hh + 1); omega) (by rw [hR]; exact hce) (by rw [hR]; exact hsl) d (kk H locs ls hl hP hz hS)
theorem jv_objInit (C : Cx Γ cc nL own ω (hh + 1) mT sT) {idx a : Nat} (g1 : Cond.methodLink own idx Lib.objectInit ∈ gd_L) (g2 : Cond.instanceMethod Lib.objectInit ∈ gd_L) (g3 : Cond.code Lib.objectInit ⟨#[0xb1]⟩ 1 none ∈ gd_L) (hst : (st.map fun v => v.category).sum + 12 ≤ 100) (d : decode cc pc = .ok (.invokespecial idx, 3)) (kk : JJ Γ Q nL ω k M ce sl (pc + 3) lv st) : JJ Γ Q nL ω k M ce sl pc lv (.ref a :: st) := by
  obtain ⟨hx, hb, hml, hown, hts, hKW, hlk, hbs, hR⟩ := C
  intro H locs ls hl hP hz hS
  have hcat : ((st.map (sh ω)).map fun v => v.category).sum = (st.map fun v => v.category).sum := by
    rw [List.map_map]; congr 2; funext v; exact sh_cat ω v
  exact W.objInit hx hb hown (hts _ g1) (hts _ g2) (hts _ g3) rfl (by rw [hml]; exact hl.1) rfl d (by rw [hR]; exact Nat.succ_le_succ (Nat.zero_le _)) (by rw [hR]; show 2 * 0 + _ + 12 ≤ 100 * (hh + 1); rw [hcat]; omega) (kk H locs ls hl hP hz hS)
/-! contracts and calls -/
def PC (ω : Wd) (k : Nat) (M : Mem) (av : List Value) : Array Value → State → Prop := fun v U => v = (av.map (sh ω)).toArray ∧ KW ω U ∧ va_P ω.2.2.2 cl_L (toW ω M) U.heap ∧ U.heap.size = wz ω + M.length + k ∧ ∀ q, q < wz ω → U.heap[q]? = ω.1[q]?
def QC (ω : Wd) (k : Nat) (r : Option Value) (M' : Mem) : Array Value → State → Outcome → State → Prop := fun _ st o t => o = .returned (r.map (sh ω)) ∧ va_P ω.2.2.2 cl_L (toW ω M') t.heap ∧ t.heap.size = wz ω + M'.length + k ∧ va_F (mA ω) st t
/-- method y, at height h over the leaves, from the small heap M comes to M' and answers r -/
def CM (l : Launch) (ω : Wd) (k : Nat) (y : MethodName) (cc : ByteArray) (mL : Nat) (ret : Option FieldType) (h mc ms : Nat) (av : List Value) (M : Mem) (r : Option Value) (M' : Mem) : Prop :=
  Met l y (Cond.code y cc mL ret :: gd_L) (rm_ h mc ms) (PC ω k M av) (QC ω k r M') mc ms (mA ω)
abbrev QF (Γ : Gm) (ω : Wd) (k mc ms : Nat) (r : Option Value) (M' : Mem) : State → Prop := MQ Γ.below (QC ω k r M') Γ.args Γ.s mc ms (mA ω)
theorem PC.blind {ω : Wd} {k : Nat} {M : Mem} {av : List Value} : FrameBlind (PC ω k M av) := fun _ _ _ _ h => ⟨h.1, h.2.1.calling, h.2.2⟩
theorem gd_in {y : MethodName} {cc : ByteArray} {mL : Nat} {ret : Option FieldType} (h : Cond.code y cc mL ret ∈ gd_L) : GoodIn gd_L (Cond.code y cc mL ret :: gd_L) := fun w hw => by
  rcases List.mem_cons.mp hw with rfl | hw
  · exact ⟨h, good_of_word (gd_good h)⟩
  · exact ⟨hw, good_of_word (gd_good hw)⟩
theorem jv_iret (C : Cx Γ cc nL own ω hh mT sT) (hr : Γ.meth.sig.returnType = some .int) {x : Int32} {r : Int32} {M' : Mem} (d : decode cc pc = .ok (.ireturn, 1)) (h : some (x, M) = some (r, M')) : JJ Γ (QF Γ ω k ce sl (some (.int r)) M') nL ω k M ce sl pc lv [.int x] := by
  obtain ⟨hx, hb, hml, hown, hts, hKW, hlk, hbs, hR⟩ := C
  intro H locs ls hl hP hz hS
  cases h
  exact W.iret hx hb hr (fun t ht hW => ⟨rfl, by rw [ht]; exact hP, by rw [ht]; exact hz, hS.F ht⟩) hS.2.2 d hlk
theorem jv_zret (C : Cx Γ cc nL own ω hh mT sT) (hr : Γ.meth.sig.returnType = some .boolean) {x : Int32} {r : Int32} {M' : Mem} (d : decode cc pc = .ok (.ireturn, 1)) (h : (if x = 0 ∨ x = 1 then some (x, M) else none) = some (r, M')) : JJ Γ (QF Γ ω k ce sl (some (.int r)) M') nL ω k M ce sl pc lv [.int x] := by
  obtain ⟨hx, hb, hml, hown, hts, hKW, hlk, hbs, hR⟩ := C
  intro H locs ls hl hP hz hS
  split at h
  · rename_i hz1
    cases h
    exact W.zret hx hb hr (by rcases hz1 with rfl | rfl <;> rfl) (fun t ht hW => ⟨rfl, by rw [ht]; exact hP, by rw [ht]; exact hz, hS.F ht⟩) hS.2.2 d hlk
  · cases h
theorem jv_vret (C : Cx Γ cc nL own ω hh mT sT) (hr : Γ.meth.sig.returnType = none) {r : Unit} {M' : Mem} (d : decode cc pc = .ok (.return_, 1)) (h : some ((), M) = some (r, M')) : JJ Γ (QF Γ ω k ce sl none M') nL ω k M ce sl pc lv [] := by
  obtain ⟨hx, hb, hml, hown, hts, hKW, hlk, hbs, hR⟩ := C
  intro H locs ls hl hP hz hS
  cases h
  exact W.vret hx hb hr (fun t ht hW => ⟨rfl, by rw [ht]; exact hP, by rw [ht]; exact hz, hS.F ht⟩) hS.2.2 d hlk
theorem jv_widen {ce' sl' : Nat} (h1 : ce ≤ ce') (h2 : sl ≤ sl') (kk : JJ Γ Q nL ω k M ce' sl' pc lv st) : JJ Γ Q nL ω k M ce sl pc lv st := fun H locs ls hl hP hz hS => W.widen h1 h2 (kk H locs ls hl hP hz hS)
theorem jv_back {H : Heap} {locs : List Loc} {ls : Array Slot} {st0 rest : List Value} {a : Array Value} {r : Option Value} {M' : Mem} {mc ms : Nat} (hr : va_Run Γ.1 Γ.2.1 Γ.2.2.1 Γ.2.2.2.1 Γ.s Γ.m Γ.args Γ.below Γ.meth Γ.c H locs ce sl mc ms (F0 Γ.m pc ls st0) rest (QC ω k r M' a) (mA ω)) (hS : va_S (mA ω) Γ.s.heap H locs)
    (kk : ∀ (H1 : Heap) (locs1 : List Loc), va_P ω.2.2.2 cl_L (toW ω M') H1 → H1.size = wz ω + M'.length + k → va_S (mA ω) Γ.s.heap H1 locs1 → W Γ.1 Γ.2.1 Γ.2.2.1 Γ.2.2.2.1 Γ.s Γ.m Γ.args Γ.below Γ.meth Γ.c H1 locs1 (ce + mc) (sl + ms) Q (F0 Γ.m (pc + 3) ls ((r.map (sh ω)).toList ++ rest))) :
    W Γ.1 Γ.2.1 Γ.2.2.1 Γ.2.2.2.1 Γ.s Γ.m Γ.args Γ.below Γ.meth Γ.c H locs ce sl Q (F0 Γ.m pc ls st0) := by
  intro T hT X
  obtain ⟨v, st₀, t, T', L, h0, X', hL, e1, e2, ⟨hv, hP1, hz1, hF⟩, stp⟩ := hr T hT X
  cases hv
  obtain ⟨f1, f2⟩ := hF
  rw [h0] at f1 f2
  obtain ⟨t2, a1, b1⟩ := kk T'.heap (locs ++ L) (by rw [e1]; exact hP1) (by rw [e1]; exact hz1)
    ⟨Nat.le_trans hS.1 (by rw [e1]; exact f1), fun q h1 h2 => by rw [e1, f2 q (Nat.lt_of_lt_of_le h1 hS.1) h2]; exact hS.2.1 q h1 h2, fun q hq => by
      rcases List.mem_append.mp hq with h | h
      · exact hS.2.2 q h
      · exact hL q h⟩ T' rfl X'
  exact ⟨t2, stp t2 a1, b1⟩
def jv_LB (own : String) (idx : Nat) (y : MethodName) (cc : ByteArray) (mL : Nat) (ret : Option FieldType) (n : Nat) : Prop := (Cond.methodLink own idx y ∈ gd_L ∨ ∃ host, Cond.methodLinkNest own idx y host ∈ ns_L) ∧ Cond.initialized y.cls ∈ gd_L ∧ Cond.code y cc mL ret ∈ gd_L ∧ (y.cls ≠ "java/lang/invoke/MethodHandle" ∧ y.cls ≠ "java/lang/invoke/VarHandle" ∧ (parseMethodDescriptor y.desc).map (fun d => d.parameters.length) = some n) ∧ mL ≤ 81
def jv_LV (own : String) (idx : Nat) (y : MethodName) (cc : ByteArray) (mL : Nat) (ret : Option FieldType) (n : Nat) : Prop := jv_LB own idx y cc mL ret n ∧ Cond.instanceMethod y ∈ gd_L ∧ Cond.selects y.cls y y ∈ gd_L
def jv_LS (own : String) (idx : Nat) (y : MethodName) (cc : ByteArray) (mL : Nat) (ret : Option FieldType) (n : Nat) : Prop := jv_LB own idx y cc mL ret n ∧ Cond.static y ∈ gd_L
def jv_LI (own : String) (idx : Nat) (y : MethodName) (cc : ByteArray) (mL : Nat) (n : Nat) : Prop := jv_LB own idx y cc mL none n ∧ y.name = "<init>" ∧ Cond.instanceMethod y ∈ gd_L
theorem jv_pre {H : Heap} {locs : List Loc} {U : State} {av : List Value} (hKW : KW ω Γ.s) (hbs : wz ω ≤ Γ.s.heap.size ∧ ∀ q, q < wz ω → Γ.s.heap[q]? = ω.1[q]?) (hP : va_P ω.2.2.2 cl_L (toW ω M) H) (hz : H.size = wz ω + M.length + k) (hS : va_S (mA ω) Γ.s.heap H locs) (hU : U.heap = H) (hW : Γ.s.WarmedH U.vm) : PC ω k M av (av.map (sh ω)).toArray U := by
  refine ⟨rfl, hKW.warm hW, by rw [hU]; exact hP, by rw [hU]; exact hz, fun q hq => ?_⟩
  rw [hU, hS.2.1 q (Nat.lt_of_lt_of_le hq hbs.1) (Nat.not_le.mpr hq)]
  exact hbs.2 q hq
theorem jv_callV (C : Cx Γ cc nL own ω hh mT sT) {idx a ci n mL h' mc ms : Nat} {y : MethodName} {c' : ByteArray} {ret : Option FieldType} {T : u_T} {N : Nat} {As stk : List Value} {r : Option Value} {M' : Mem} (L : jv_LV own idx y c' mL ret n) (hc : cl_L[ci]? = some (y.cls, T, N)) {u : Unit} (hk : mm_ck M a ci = some u) (d : decode cc pc = .ok (.invokevirtual idx, 3)) (hn : As.length = n) (hst : stk = As.reverse ++ .ref a :: st) (hh1 : h' + 1 ≤ hh) (hce : ce + mc ≤ mT) (hsl : sl + ms ≤ sT) (hcat : (st.map fun v => v.category).sum ≤ 8)
    (ct : CM Γ.2.1 ω k y c' mL ret h' mc ms (.ref a :: As) M r M') (kk : JJ Γ Q nL ω k M' (ce + mc) (sl + ms) (pc + 3) lv (r.toList ++ st)) : JJ Γ Q nL ω k M ce sl pc lv stk := by
  obtain ⟨hx, hb, hml, hown, hts, hKW, hlk, hbs, hR⟩ := C
  obtain ⟨⟨lk, li, lc, ld, lm⟩, l1, l2⟩ := L
  intro H locs ls hl hP hz hS
  obtain ⟨fs, hfs⟩ := mm_ck_spec hk
  have hcat' : ((st.map (sh ω)).map fun v => v.category).sum ≤ 8 := by
    rw [List.map_map]; rw [show (fun v : Value => v.category) ∘ sh ω = (fun v : Value => v.category) from funext (sh_cat ω)]; exact hcat
  have hrm : (rm_ h' mc ms).frames + 1 ≤ Γ.2.2.2.1.frames ∧ 8 + (mL + 11) + (rm_ h' mc ms).locals ≤ Γ.2.2.2.1.locals := by
    rw [hR]; exact ⟨hh1, by show 8 + (mL + 11) + 100 * h' ≤ 100 * hh; omega⟩
  have hpre : PreV Γ.s H y.cls (wz ω + a) (PC ω k M (.ref a :: As)) (As.map (sh ω)) := ⟨PC.blind, va_recv hKW.1 hP hc (q0 := a) (toW_at hfs), fun U hU hW => jv_pre (av := .ref a :: As) hKW hbs hP hz hS hU hW⟩
  have hstk : stk.map (sh ω) = (As.map (sh ω)).reverse ++ .ref (wz ω + a) :: st.map (sh ω) := by rw [hst]; simp [sh]
  have hce' : ce + mc ≤ Γ.2.2.2.1.cells ∧ sl + ms ≤ Γ.2.2.2.1.slots := by rw [hR]; exact ⟨hce, hsl⟩
  have hfin : ∀ (H1 : Heap) (locs1 : List Loc), va_P ω.2.2.2 cl_L (toW ω M') H1 → H1.size = wz ω + M'.length + k → va_S (mA ω) Γ.s.heap H1 locs1 → W Γ.1 Γ.2.1 Γ.2.2.1 Γ.2.2.2.1 Γ.s Γ.m Γ.args Γ.below Γ.meth Γ.c H1 locs1 (ce + mc) (sl + ms) Q (F0 Γ.m (pc + 3) ls ((r.map (sh ω)).toList ++ st.map (sh ω))) := fun H1 locs1 hP1 hz1 hS1 => by
    have h9 := kk H1 locs1 ls hl hP1 hz1 hS1
    rw [List.map_append, show r.toList.map (sh ω) = (r.map (sh ω)).toList by cases r <;> rfl] at h9
    exact h9
  rcases lk with lk | ⟨host, lk⟩
  · exact jv_back (va_runV (As := As.map (sh ω)) (rest := st.map (sh ω)) (b := wz ω + a) (C := y.cls) (Ts := gd_L) ⟨hx, hb, hml, hown, hts⟩ ct ⟨callB_of n hts (gd_in lc) rfl rfl rfl (hts _ li) (hts _ lk) ld hrm, hts _ l1, hts _ l2⟩ hpre rfl (by rw [List.length_map]; exact hn) hl.1 hstk (lv_room hcat') d hce') hS hfin
  · exact jv_back (va_runVN (As := As.map (sh ω)) (rest := st.map (sh ω)) (b := wz ω + a) (C := y.cls) (Ts := gd_L) ⟨hx, hb, hml, hown, hts⟩ ct ⟨va_cnB n hts (gd_in lc) rfl rfl rfl (hKW.2.1 _ lk) (hts _ li) ld hrm, hts _ l1, hts _ l2⟩ hpre rfl (by rw [List.length_map]; exact hn) hl.1 hstk (lv_room hcat') d hce') hS hfin
theorem jv_callS (C : Cx Γ cc nL own ω hh mT sT) {idx n mL h' mc ms : Nat} {y : MethodName} {c' : ByteArray} {ret : Option FieldType} {As stk : List Value} {r : Option Value} {M' : Mem} (L : jv_LS own idx y c' mL ret n) (d : decode cc pc = .ok (.invokestatic idx, 3)) (hn : As.length = n) (hst : stk = As.reverse ++ st) (hh1 : h' + 1 ≤ hh) (hce : ce + mc ≤ mT) (hsl : sl + ms ≤ sT) (hcat : (st.map fun v => v.category).sum ≤ 8)
    (ct : CM Γ.2.1 ω k y c' mL ret h' mc ms As M r M') (kk : JJ Γ Q nL ω k M' (ce + mc) (sl + ms) (pc + 3) lv (r.toList ++ st)) : JJ Γ Q nL ω k M ce sl pc lv stk := by
  obtain ⟨hx, hb, hml, hown, hts, hKW, hlk, hbs, hR⟩ := C
  obtain ⟨⟨lk, li, lc, ld, lm⟩, l1⟩ := L
  intro H locs ls hl hP hz hS
  have hcat' : ((st.map (sh ω)).map fun v => v.category).sum ≤ 8 := by
    rw [List.map_map]; rw [show (fun v : Value => v.category) ∘ sh ω = (fun v : Value => v.category) from funext (sh_cat ω)]; exact hcat
  have hrm : (rm_ h' mc ms).frames + 1 ≤ Γ.2.2.2.1.frames ∧ 8 + (mL + 11) + (rm_ h' mc ms).locals ≤ Γ.2.2.2.1.locals := by
    rw [hR]; exact ⟨hh1, by show 8 + (mL + 11) + 100 * h' ≤ 100 * hh; omega⟩
  have hpre : PreS Γ.s H (PC ω k M As) (As.map (sh ω)) := ⟨PC.blind, fun U hU hW => jv_pre (av := As) hKW hbs hP hz hS hU hW⟩
  have hstk : stk.map (sh ω) = (As.map (sh ω)).reverse ++ st.map (sh ω) := by rw [hst]; simp
  have hce' : ce + mc ≤ Γ.2.2.2.1.cells ∧ sl + ms ≤ Γ.2.2.2.1.slots := by rw [hR]; exact ⟨hce, hsl⟩
  have hfin : ∀ (H1 : Heap) (locs1 : List Loc), va_P ω.2.2.2 cl_L (toW ω M') H1 → H1.size = wz ω + M'.length + k → va_S (mA ω) Γ.s.heap H1 locs1 → W Γ.1 Γ.2.1 Γ.2.2.1 Γ.2.2.2.1 Γ.s Γ.m Γ.args Γ.below Γ.meth Γ.c H1 locs1 (ce + mc) (sl + ms) Q (F0 Γ.m (pc + 3) ls ((r.map (sh ω)).toList ++ st.map (sh ω))) := fun H1 locs1 hP1 hz1 hS1 => by
    have h9 := kk H1 locs1 ls hl hP1 hz1 hS1
    rw [List.map_append, show r.toList.map (sh ω) = (r.map (sh ω)).toList by cases r <;> rfl] at h9
    exact h9
  rcases lk with lk | ⟨host, lk⟩
  · exact jv_back (va_runS (As := As.map (sh ω)) (rest := st.map (sh ω)) (Ts := gd_L) ⟨hx, hb, hml, hown, hts⟩ ct ⟨callB_of n hts (gd_in lc) rfl rfl rfl (hts _ li) (hts _ lk) ld hrm, hts _ l1⟩ hpre rfl (by rw [List.length_map]; exact hn) hl.1 hstk (lv_room hcat') d hce') hS hfin
  · exact jv_back (va_runSN (As := As.map (sh ω)) (rest := st.map (sh ω)) (Ts := gd_L) ⟨hx, hb, hml, hown, hts⟩ ct ⟨va_cnB n hts (gd_in lc) rfl rfl rfl (hKW.2.1 _ lk) (hts _ li) ld hrm, hts _ l1, trivial⟩ hpre rfl (by rw [List.length_map]; exact hn) hl.1 hstk (lv_room hcat') d hce') hS hfin
theorem jv_callI (C : Cx Γ cc nL own ω hh mT sT) {idx a n mL h' mc ms : Nat} {y : MethodName} {c' : ByteArray} {As stk : List Value} {M' : Mem} (L : jv_LI own idx y c' mL n) (d : decode cc pc = .ok (.invokespecial idx, 3)) (hn : As.length = n) (hst : stk = As.reverse ++ .ref a :: st) (hh1 : h' + 1 ≤ hh) (hce : ce + mc ≤ mT) (hsl : sl + ms ≤ sT) (hcat : (st.map fun v => v.category).sum ≤ 8)
    (ct : CM Γ.2.1 ω k y c' mL none h' mc ms (.ref a :: As) M none M') (kk : JJ Γ Q nL ω k M' (ce + mc) (sl + ms) (pc + 3) lv st) : JJ Γ Q nL ω k M ce sl pc lv stk := by
  obtain ⟨hx, hb, hml, hown, hts, hKW, hlk, hbs, hR⟩ := C
  obtain ⟨⟨lk, li, lc, ld, lm⟩, l1, l2⟩ := L
  intro H locs ls hl hP hz hS
  have hcat' : ((st.map (sh ω)).map fun v => v.category).sum ≤ 8 := by
    rw [List.map_map]; rw [show (fun v : Value => v.category) ∘ sh ω = (fun v : Value => v.category) from funext (sh_cat ω)]; exact hcat
  have hrm : (rm_ h' mc ms).frames + 1 ≤ Γ.2.2.2.1.frames ∧ 8 + (mL + 11) + (rm_ h' mc ms).locals ≤ Γ.2.2.2.1.locals := by
    rw [hR]; exact ⟨hh1, by show 8 + (mL + 11) + 100 * h' ≤ 100 * hh; omega⟩
  have hpre : PreS Γ.s H (PC ω k M (.ref a :: As)) (.ref (wz ω + a) :: As.map (sh ω)) := ⟨PC.blind, fun U hU hW => jv_pre (av := .ref a :: As) hKW hbs hP hz hS hU hW⟩
  have hstk : stk.map (sh ω) = (As.map (sh ω)).reverse ++ .ref (wz ω + a) :: st.map (sh ω) := by rw [hst]; simp [sh]
  have hce' : ce + mc ≤ Γ.2.2.2.1.cells ∧ sl + ms ≤ Γ.2.2.2.1.slots := by rw [hR]; exact ⟨hce, hsl⟩
  have hfin : ∀ (H1 : Heap) (locs1 : List Loc), va_P ω.2.2.2 cl_L (toW ω M') H1 → H1.size = wz ω + M'.length + k → va_S (mA ω) Γ.s.heap H1 locs1 → W Γ.1 Γ.2.1 Γ.2.2.1 Γ.2.2.2.1 Γ.s Γ.m Γ.args Γ.below Γ.meth Γ.c H1 locs1 (ce + mc) (sl + ms) Q (F0 Γ.m (pc + 3) ls (((none : Option Value).map (sh ω)).toList ++ st.map (sh ω))) := fun H1 locs1 hP1 hz1 hS1 => kk H1 locs1 ls hl hP1 hz1 hS1
  rcases lk with lk | ⟨host, lk⟩
  · exact jv_back (va_runI (As := As.map (sh ω)) (rest := st.map (sh ω)) (b := wz ω + a) (Ts := gd_L) ⟨hx, hb, hml, hown, hts⟩ ct ⟨callB_of n hts (gd_in lc) rfl rfl rfl (hts _ li) (hts _ lk) ld hrm, l1, hts _ l2⟩ hpre rfl (by rw [List.length_map]; exact hn) hl.1 hstk (lv_room hcat') d hce') hS hfin
  · exact jv_back (va_runIN (As := As.map (sh ω)) (rest := st.map (sh ω)) (b := wz ω + a) (Ts := gd_L) ⟨hx, hb, hml, hown, hts⟩ ct ⟨va_cnB n hts (gd_in lc) rfl rfl rfl (hKW.2.1 _ lk) (hts _ li) ld hrm, l1, hts _ l2⟩ hpre rfl (by rw [List.length_map]; exact hn) hl.1 hstk (lv_room hcat') d hce') hS hfin
end JV
/-- a method's contract out of its walk -/
theorem CM.of {l : Launch} {ω : Wd} {k : Nat} {y : MethodName} {cc : ByteArray} {mL : Nat} {ret : Option FieldType} {h mc ms : Nat} {av : List Value} {M M' : Mem} {r : Option Value} (hy : plainName y.cls = true) (hlen : (lg_sl av).length ≤ mL)
    (body : ∀ Γ : Gm, Γ.2.1 = l → Cx Γ cc mL y.cls ω h mc ms → Γ.meth.sig.returnType = ret → Γ.meth.name = y.name → JJ Γ (QF Γ ω k mc ms r M') mL ω k M 0 0 0 (lv_args 0 av) []) : CM l ω k y cc mL ret h mc ms av M r M' := by
  refine Met.ofW (cc := cc) (maxL := mL) (ret := ret) hy rfl ?_
  intro p e s m args below meth c s₁ B hml hv
  obtain ⟨rfl, hKW, hP, hz, hb0⟩ := hv
  have hts := atoms_spec (ws := Cond.code y cc mL ret :: gd_L) B.pre
  have hC : Cx (p, l, e, rm_ h mc ms, s, m, (av.map (sh ω)).toArray, below, meth, c) cc mL y.cls ω h mc ms := ⟨B.exec, B.bytes, hml, findClass_of_methodNamed B.named, fun w hw => hts w (List.mem_cons_of_mem _ hw), hKW, B.notSynchronized, ⟨by show wz ω ≤ s.heap.size; omega, hb0⟩, rfl⟩
  have hb1 := body (p, l, e, rm_ h mc ms, s, m, (av.map (sh ω)).toArray, below, meth, c) rfl hC B.returns (name_of_methodNamed B.named B.method).1
  have hsl : (lg_sl (av.map (sh ω))).length = (lg_sl av).length := by
    clear hb1 hC hts hP hz hb0 hKW B hml body hlen
    induction av with
    | nil => rfl
    | cons v vs ih =>
      simp only [lg_sl, List.map_cons, List.flatMap_cons, List.length_append, sh_cat] at ih ⊢
      rw [ih]
      congr 1
      split <;> rfl
  have hl := lv_entry (av.map (sh ω)) (n := mL) (by rw [hsl]; exact hlen)
  rw [shL_args] at hl
  rw [lg_entry_eq]
  exact hb1 s.heap [] _ hl hP hz va_S.rf
end
section
def mm_b2 {α ρ : Type} (x : Option (α × Mem)) (K : α → Mem → Option ρ) : Option ρ := match x with
  | some q => K q.1 q.2
  | none => none
def mm_nm {ρ : Type} (a : Nat) (M : Mem) (K : Nat → Mem → Option ρ) : Option ρ := K a M
def mm_lt {ρ : Type} (x : Int32) (K : Int32 → Option ρ) : Option ρ := K x
theorem mm_b2_spec {α ρ : Type} {x : Option (α × Mem)} {K : α → Mem → Option ρ} {res : ρ} (h : mm_b2 x K = some res) : ∃ r M, x = some (r, M) ∧ K r M = some res := by
  cases x with
  | none => cases h
  | some q => exact ⟨q.1, q.2, rfl, h⟩
section JV2
variable {Γ : Gm} {Q : State → Prop} {nL k : Nat} {ω : Wd} {M : Mem} {ce sl pc : Nat} {lv : List (Nat × Value)} {st : List Value} {cc : ByteArray} {own : String} {hh mT sT : Nat} {ρ : Type} {res : ρ}
theorem jv_name {a0 : Nat} {K : Nat → Mem → Option ρ} (h : mm_nm a0 M K = some res) (kk : ∀ a M, K a M = some res → JJ Γ Q nL ω k M ce sl pc lv (.ref a :: st)) : JJ Γ Q nL ω k M ce sl pc lv (.ref a0 :: st) := kk a0 M h
theorem jv_nameI {x : Int32} {K : Int32 → Option ρ} (h : mm_lt x K = some res) (kk : ∀ v, K v = some res → JJ Γ Q nL ω k M ce sl pc lv (.int v :: st)) : JJ Γ Q nL ω k M ce sl pc lv (.int x :: st) := kk x h
theorem jv_zretc (C : Cx Γ cc nL own ω hh mT sT) (hr : Γ.meth.sig.returnType = some .boolean) {x : Int32} (hx : x = 0 ∨ x = 1) {r : Int32} {M' : Mem} (d : decode cc pc = .ok (.ireturn, 1)) (h : some (x, M) = some (r, M')) : JJ Γ (QF Γ ω k ce sl (some (.int r)) M') nL ω k M ce sl pc lv [.int x] := jv_zret C hr d (by rw [if_pos hx]; exact h)
theorem jv_if_eqkt (C : Cx Γ cc nL own ω hh mT sT) {x : Int32} {off : Int} {tgt : Nat} (d : decode cc pc = .ok (.ifCond .eq off, 3)) (ht : (pc : Int) + off = (tgt : Int)) (hc : x = 0) (kk : JJ Γ Q nL ω k M ce sl tgt lv st) : JJ Γ Q nL ω k M ce sl pc lv (.int x :: st) := by
  obtain ⟨hx, hb, -⟩ := C
  intro H locs ls hl hP hz hS
  exact lv_if_eq hx hb d ht (fun _ => kk H locs ls hl hP hz hS) (fun c => absurd hc c)
theorem jv_if_eqkf (C : Cx Γ cc nL own ω hh mT sT) {x : Int32} {off : Int} {tgt : Nat} (d : decode cc pc = .ok (.ifCond .eq off, 3)) (ht : (pc : Int) + off = (tgt : Int)) (hc : ¬ x = 0) (kk : JJ Γ Q nL ω k M ce sl (pc + 3) lv st) : JJ Γ Q nL ω k M ce sl pc lv (.int x :: st) := by
  obtain ⟨hx, hb, -⟩ := C
  intro H locs ls hl hP hz hS
  exact lv_if_eq hx hb d ht (fun c => absurd c hc) (fun _ => kk H locs ls hl hP hz hS)
theorem jv_icmp_eqkt (C : Cx Γ cc nL own ω hh mT sT) {x y : Int32} {off : Int} {tgt : Nat} (d : decode cc pc = .ok (.if_icmp .eq off, 3)) (ht : (pc : Int) + off = (tgt : Int)) (hc : x = y) (kk : JJ Γ Q nL ω k M ce sl tgt lv st) : JJ Γ Q nL ω k M ce sl pc lv (.int y :: .int x :: st) := by
  obtain ⟨hx, hb, -⟩ := C
  intro H locs ls hl hP hz hS
  exact lv_icmp_eq hx hb d ht (fun _ => kk H locs ls hl hP hz hS) (fun c => absurd hc c)
theorem jv_icmp_eqkf (C : Cx Γ cc nL own ω hh mT sT) {x y : Int32} {off : Int} {tgt : Nat} (d : decode cc pc = .ok (.if_icmp .eq off, 3)) (ht : (pc : Int) + off = (tgt : Int)) (hc : ¬ x = y) (kk : JJ Γ Q nL ω k M ce sl (pc + 3) lv st) : JJ Γ Q nL ω k M ce sl pc lv (.int y :: .int x :: st) := by
  obtain ⟨hx, hb, -⟩ := C
  intro H locs ls hl hP hz hS
  exact lv_icmp_eq hx hb d ht (fun c => absurd c hc) (fun _ => kk H locs ls hl hP hz hS)
theorem jv_if_nekt (C : Cx Γ cc nL own ω hh mT sT) {x : Int32} {off : Int} {tgt : Nat} (d : decode cc pc = .ok (.ifCond .ne off, 3)) (ht : (pc : Int) + off = (tgt : Int)) (hc : ¬ x = 0) (kk : JJ Γ Q nL ω k M ce sl tgt lv st) : JJ Γ Q nL ω k M ce sl pc lv (.int x :: st) := by
  obtain ⟨hx, hb, -⟩ := C
  intro H locs ls hl hP hz hS
  exact lv_if_ne hx hb d ht (fun _ => kk H locs ls hl hP hz hS) (fun c => absurd c hc)
theorem jv_if_nekf (C : Cx Γ cc nL own ω hh mT sT) {x : Int32} {off : Int} {tgt : Nat} (d : decode cc pc = .ok (.ifCond .ne off, 3)) (ht : (pc : Int) + off = (tgt : Int)) (hc : x = 0) (kk : JJ Γ Q nL ω k M ce sl (pc + 3) lv st) : JJ Γ Q nL ω k M ce sl pc lv (.int x :: st) := by
  obtain ⟨hx, hb, -⟩ := C
  intro H locs ls hl hP hz hS
  exact lv_if_ne hx hb d ht (fun c => absurd hc c) (fun _ => kk H locs ls hl hP hz hS)
theorem jv_icmp_nekt (C : Cx Γ cc nL own ω hh mT sT) {x y : Int32} {off : Int} {tgt : Nat} (d : decode cc pc = .ok (.if_icmp .ne off, 3)) (ht : (pc : Int) + off = (tgt : Int)) (hc : ¬ x = y) (kk : JJ Γ Q nL ω k M ce sl tgt lv st) : JJ Γ Q nL ω k M ce sl pc lv (.int y :: .int x :: st) := by
  obtain ⟨hx, hb, -⟩ := C
  intro H locs ls hl hP hz hS
  exact lv_icmp_ne hx hb d ht (fun _ => kk H locs ls hl hP hz hS) (fun c => absurd c hc)
theorem jv_icmp_nekf (C : Cx Γ cc nL own ω hh mT sT) {x y : Int32} {off : Int} {tgt : Nat} (d : decode cc pc = .ok (.if_icmp .ne off, 3)) (ht : (pc : Int) + off = (tgt : Int)) (hc : x = y) (kk : JJ Γ Q nL ω k M ce sl (pc + 3) lv st) : JJ Γ Q nL ω k M ce sl pc lv (.int y :: .int x :: st) := by
  obtain ⟨hx, hb, -⟩ := C
  intro H locs ls hl hP hz hS
  exact lv_icmp_ne hx hb d ht (fun c => absurd hc c) (fun _ => kk H locs ls hl hP hz hS)
theorem jv_if_ltkt (C : Cx Γ cc nL own ω hh mT sT) {x : Int32} {off : Int} {tgt : Nat} (d : decode cc pc = .ok (.ifCond .lt off, 3)) (ht : (pc : Int) + off = (tgt : Int)) (hc : x < 0) (kk : JJ Γ Q nL ω k M ce sl tgt lv st) : JJ Γ Q nL ω k M ce sl pc lv (.int x :: st) := by
  obtain ⟨hx, hb, -⟩ := C
  intro H locs ls hl hP hz hS
  exact lv_if_lt hx hb d ht (fun _ => kk H locs ls hl hP hz hS) (fun c => absurd hc c)
theorem jv_if_ltkf (C : Cx Γ cc nL own ω hh mT sT) {x : Int32} {off : Int} {tgt : Nat} (d : decode cc pc = .ok (.ifCond .lt off, 3)) (ht : (pc : Int) + off = (tgt : Int)) (hc : ¬ x < 0) (kk : JJ Γ Q nL ω k M ce sl (pc + 3) lv st) : JJ Γ Q nL ω k M ce sl pc lv (.int x :: st) := by
  obtain ⟨hx, hb, -⟩ := C
  intro H locs ls hl hP hz hS
  exact lv_if_lt hx hb d ht (fun c => absurd c hc) (fun _ => kk H locs ls hl hP hz hS)
theorem jv_icmp_ltkt (C : Cx Γ cc nL own ω hh mT sT) {x y : Int32} {off : Int} {tgt : Nat} (d : decode cc pc = .ok (.if_icmp .lt off, 3)) (ht : (pc : Int) + off = (tgt : Int)) (hc : x < y) (kk : JJ Γ Q nL ω k M ce sl tgt lv st) : JJ Γ Q nL ω k M ce sl pc lv (.int y :: .int x :: st) := by
  obtain ⟨hx, hb, -⟩ := C
  intro H locs ls hl hP hz hS
  exact lv_icmp_lt hx hb d ht (fun _ => kk H locs ls hl hP hz hS) (fun c => absurd hc c)
theorem jv_icmp_ltkf (C : Cx Γ cc nL own ω hh mT sT) {x y : Int32} {off : Int} {tgt : Nat} (d : decode cc pc = .ok (.if_icmp .lt off, 3)) (ht : (pc : Int) + off = (tgt : Int)) (hc : ¬ x < y) (kk : JJ Γ Q nL ω k M ce sl (pc + 3) lv st) : JJ Γ Q nL ω k M ce sl pc lv (.int y :: .int x :: st) := by
  obtain ⟨hx, hb, -⟩ := C
  intro H locs ls hl hP hz hS
  exact lv_icmp_lt hx hb d ht (fun c => absurd c hc) (fun _ => kk H locs ls hl hP hz hS)
theorem jv_if_gekt (C : Cx Γ cc nL own ω hh mT sT) {x : Int32} {off : Int} {tgt : Nat} (d : decode cc pc = .ok (.ifCond .ge off, 3)) (ht : (pc : Int) + off = (tgt : Int)) (hc : 0 ≤ x) (kk : JJ Γ Q nL ω k M ce sl tgt lv st) : JJ Γ Q nL ω k M ce sl pc lv (.int x :: st) := by
  obtain ⟨hx, hb, -⟩ := C
  intro H locs ls hl hP hz hS
  exact lv_if_ge hx hb d ht (fun _ => kk H locs ls hl hP hz hS) (fun c => absurd hc c)
theorem jv_if_gekf (C : Cx Γ cc nL own ω hh mT sT) {x : Int32} {off : Int} {tgt : Nat} (d : decode cc pc = .ok (.ifCond .ge off, 3)) (ht : (pc : Int) + off = (tgt : Int)) (hc : ¬ 0 ≤ x) (kk : JJ Γ Q nL ω k M ce sl (pc + 3) lv st) : JJ Γ Q nL ω k M ce sl pc lv (.int x :: st) := by
  obtain ⟨hx, hb, -⟩ := C
  intro H locs ls hl hP hz hS
  exact lv_if_ge hx hb d ht (fun c => absurd c hc) (fun _ => kk H locs ls hl hP hz hS)
theorem jv_icmp_gekt (C : Cx Γ cc nL own ω hh mT sT) {x y : Int32} {off : Int} {tgt : Nat} (d : decode cc pc = .ok (.if_icmp .ge off, 3)) (ht : (pc : Int) + off = (tgt : Int)) (hc : y ≤ x) (kk : JJ Γ Q nL ω k M ce sl tgt lv st) : JJ Γ Q nL ω k M ce sl pc lv (.int y :: .int x :: st) := by
  obtain ⟨hx, hb, -⟩ := C
  intro H locs ls hl hP hz hS
  exact lv_icmp_ge hx hb d ht (fun _ => kk H locs ls hl hP hz hS) (fun c => absurd hc c)
theorem jv_icmp_gekf (C : Cx Γ cc nL own ω hh mT sT) {x y : Int32} {off : Int} {tgt : Nat} (d : decode cc pc = .ok (.if_icmp .ge off, 3)) (ht : (pc : Int) + off = (tgt : Int)) (hc : ¬ y ≤ x) (kk : JJ Γ Q nL ω k M ce sl (pc + 3) lv st) : JJ Γ Q nL ω k M ce sl pc lv (.int y :: .int x :: st) := by
  obtain ⟨hx, hb, -⟩ := C
  intro H locs ls hl hP hz hS
  exact lv_icmp_ge hx hb d ht (fun c => absurd c hc) (fun _ => kk H locs ls hl hP hz hS)
theorem jv_if_gtkt (C : Cx Γ cc nL own ω hh mT sT) {x : Int32} {off : Int} {tgt : Nat} (d : decode cc pc = .ok (.ifCond .gt off, 3)) (ht : (pc : Int) + off = (tgt : Int)) (hc : 0 < x) (kk : JJ Γ Q nL ω k M ce sl tgt lv st) : JJ Γ Q nL ω k M ce sl pc lv (.int x :: st) := by
  obtain ⟨hx, hb, -⟩ := C
  intro H locs ls hl hP hz hS
  exact lv_if_gt hx hb d ht (fun _ => kk H locs ls hl hP hz hS) (fun c => absurd hc c)
theorem jv_if_gtkf (C : Cx Γ cc nL own ω hh mT sT) {x : Int32} {off : Int} {tgt : Nat} (d : decode cc pc = .ok (.ifCond .gt off, 3)) (ht : (pc : Int) + off = (tgt : Int)) (hc : ¬ 0 < x) (kk : JJ Γ Q nL ω k M ce sl (pc + 3) lv st) : JJ Γ Q nL ω k M ce sl pc lv (.int x :: st) := by
  obtain ⟨hx, hb, -⟩ := C
  intro H locs ls hl hP hz hS
  exact lv_if_gt hx hb d ht (fun c => absurd c hc) (fun _ => kk H locs ls hl hP hz hS)
theorem jv_icmp_gtkt (C : Cx Γ cc nL own ω hh mT sT) {x y : Int32} {off : Int} {tgt : Nat} (d : decode cc pc = .ok (.if_icmp .gt off, 3)) (ht : (pc : Int) + off = (tgt : Int)) (hc : y < x) (kk : JJ Γ Q nL ω k M ce sl tgt lv st) : JJ Γ Q nL ω k M ce sl pc lv (.int y :: .int x :: st) := by
  obtain ⟨hx, hb, -⟩ := C
  intro H locs ls hl hP hz hS
  exact lv_icmp_gt hx hb d ht (fun _ => kk H locs ls hl hP hz hS) (fun c => absurd hc c)
theorem jv_icmp_gtkf (C : Cx Γ cc nL own ω hh mT sT) {x y : Int32} {off : Int} {tgt : Nat} (d : decode cc pc = .ok (.if_icmp .gt off, 3)) (ht : (pc : Int) + off = (tgt : Int)) (hc : ¬ y < x) (kk : JJ Γ Q nL ω k M ce sl (pc + 3) lv st) : JJ Γ Q nL ω k M ce sl pc lv (.int y :: .int x :: st) := by
  obtain ⟨hx, hb, -⟩ := C
  intro H locs ls hl hP hz hS
  exact lv_icmp_gt hx hb d ht (fun c => absurd c hc) (fun _ => kk H locs ls hl hP hz hS)
theorem jv_if_lekt (C : Cx Γ cc nL own ω hh mT sT) {x : Int32} {off : Int} {tgt : Nat} (d : decode cc pc = .ok (.ifCond .le off, 3)) (ht : (pc : Int) + off = (tgt : Int)) (hc : x ≤ 0) (kk : JJ Γ Q nL ω k M ce sl tgt lv st) : JJ Γ Q nL ω k M ce sl pc lv (.int x :: st) := by
  obtain ⟨hx, hb, -⟩ := C
  intro H locs ls hl hP hz hS
  exact lv_if_le hx hb d ht (fun _ => kk H locs ls hl hP hz hS) (fun c => absurd hc c)
theorem jv_if_lekf (C : Cx Γ cc nL own ω hh mT sT) {x : Int32} {off : Int} {tgt : Nat} (d : decode cc pc = .ok (.ifCond .le off, 3)) (ht : (pc : Int) + off = (tgt : Int)) (hc : ¬ x ≤ 0) (kk : JJ Γ Q nL ω k M ce sl (pc + 3) lv st) : JJ Γ Q nL ω k M ce sl pc lv (.int x :: st) := by
  obtain ⟨hx, hb, -⟩ := C
  intro H locs ls hl hP hz hS
  exact lv_if_le hx hb d ht (fun c => absurd c hc) (fun _ => kk H locs ls hl hP hz hS)
theorem jv_icmp_lekt (C : Cx Γ cc nL own ω hh mT sT) {x y : Int32} {off : Int} {tgt : Nat} (d : decode cc pc = .ok (.if_icmp .le off, 3)) (ht : (pc : Int) + off = (tgt : Int)) (hc : x ≤ y) (kk : JJ Γ Q nL ω k M ce sl tgt lv st) : JJ Γ Q nL ω k M ce sl pc lv (.int y :: .int x :: st) := by
  obtain ⟨hx, hb, -⟩ := C
  intro H locs ls hl hP hz hS
  exact lv_icmp_le hx hb d ht (fun _ => kk H locs ls hl hP hz hS) (fun c => absurd hc c)
theorem jv_icmp_lekf (C : Cx Γ cc nL own ω hh mT sT) {x y : Int32} {off : Int} {tgt : Nat} (d : decode cc pc = .ok (.if_icmp .le off, 3)) (ht : (pc : Int) + off = (tgt : Int)) (hc : ¬ x ≤ y) (kk : JJ Γ Q nL ω k M ce sl (pc + 3) lv st) : JJ Γ Q nL ω k M ce sl pc lv (.int y :: .int x :: st) := by
  obtain ⟨hx, hb, -⟩ := C
  intro H locs ls hl hP hz hS
  exact lv_icmp_le hx hb d ht (fun c => absurd c hc) (fun _ => kk H locs ls hl hP hz hS)
theorem jv_vI (C : Cx Γ cc nL own ω hh mT sT) {idx a ci n mL h' mc ms : Nat} {y : MethodName} {c' : ByteArray} {ret : Option FieldType} {T : u_T} {N : Nat} {As stk : List Value} (L : jv_LV own idx y c' mL ret n) (hc : cl_L[ci]? = some (y.cls, T, N)) (d : decode cc pc = .ok (.invokevirtual idx, 3)) (hn : As.length = n) (hst : stk = As.reverse ++ .ref a :: st) (hh1 : h' + 1 ≤ hh) (hce : ce + mc ≤ mT) (hsl : sl + ms ≤ sT) (hcat : (st.map fun v => v.category).sum ≤ 8) {F : Option (Int32 × Mem)} {K : Int32 → Mem → Option ρ} (h : ((mm_ck M a ci).bind fun _ => mm_b2 F K) = some res) (ct : ∀ r M', F = some (r, M') → CM Γ.2.1 ω k y c' mL ret h' mc ms (.ref a :: As) M (some (.int r)) M') (kk : ∀ r M', K r M' = some res → JJ Γ Q nL ω k M' (ce + mc) (sl + ms) (pc + 3) lv (.int r :: st)) : JJ Γ Q nL ω k M ce sl pc lv stk := by
  obtain ⟨u, h1, h2⟩ := Option.bind_eq_some_iff.mp h
  obtain ⟨r, M2, h3, h4⟩ := mm_b2_spec h2
  exact jv_callV C L hc h1 d hn hst hh1 hce hsl hcat (ct r M2 h3) (kk r M2 h4)
theorem jv_sI (C : Cx Γ cc nL own ω hh mT sT) {idx n mL h' mc ms : Nat} {y : MethodName} {c' : ByteArray} {ret : Option FieldType} {As stk : List Value} (L : jv_LS own idx y c' mL ret n) (d : decode cc pc = .ok (.invokestatic idx, 3)) (hn : As.length = n) (hst : stk = As.reverse ++ st) (hh1 : h' + 1 ≤ hh) (hce : ce + mc ≤ mT) (hsl : sl + ms ≤ sT) (hcat : (st.map fun v => v.category).sum ≤ 8) {F : Option (Int32 × Mem)} {K : Int32 → Mem → Option ρ} (h : mm_b2 F K = some res) (ct : ∀ r M', F = some (r, M') → CM Γ.2.1 ω k y c' mL ret h' mc ms As M (some (.int r)) M') (kk : ∀ r M', K r M' = some res → JJ Γ Q nL ω k M' (ce + mc) (sl + ms) (pc + 3) lv (.int r :: st)) : JJ Γ Q nL ω k M ce sl pc lv stk := by
  obtain ⟨r, M2, h3, h4⟩ := mm_b2_spec h
  exact jv_callS C L d hn hst hh1 hce hsl hcat (ct r M2 h3) (kk r M2 h4)
theorem jv_vI0 (C : Cx Γ cc nL own ω hh mT sT) {idx a ci n mL h' : Nat} {y : MethodName} {c' : ByteArray} {ret : Option FieldType} {T : u_T} {N : Nat} {As stk : List Value} (L : jv_LV own idx y c' mL ret n) (hc : cl_L[ci]? = some (y.cls, T, N)) (d : decode cc pc = .ok (.invokevirtual idx, 3)) (hn : As.length = n) (hst : stk = As.reverse ++ .ref a :: st) (hh1 : h' + 1 ≤ hh) (hce : ce + 0 ≤ mT) (hsl : sl + 0 ≤ sT) (hcat : (st.map fun v => v.category).sum ≤ 8) {F : Option (Int32 × Mem)} {K : Int32 → Mem → Option ρ} (h : ((mm_ck M a ci).bind fun _ => mm_b2 F K) = some res) (ct : ∀ r M', F = some (r, M') → CM Γ.2.1 ω k y c' mL ret h' 0 0 (.ref a :: As) M (some (.int r)) M') (kk : ∀ r M', K r M' = some res → JJ Γ Q nL ω k M' ce sl (pc + 3) lv (.int r :: st)) : JJ Γ Q nL ω k M ce sl pc lv stk := by
  obtain ⟨u, h1, h2⟩ := Option.bind_eq_some_iff.mp h
  obtain ⟨r, M2, h3, h4⟩ := mm_b2_spec h2
  exact jv_callV C L hc h1 d hn hst hh1 hce hsl hcat (ct r M2 h3) (kk r M2 h4)
theorem jv_sI0 (C : Cx Γ cc nL own ω hh mT sT) {idx n mL h' : Nat} {y : MethodName} {c' : ByteArray} {ret : Option FieldType} {As stk : List Value} (L : jv_LS own idx y c' mL ret n) (d : decode cc pc = .ok (.invokestatic idx, 3)) (hn : As.length = n) (hst : stk = As.reverse ++ st) (hh1 : h' + 1 ≤ hh) (hce : ce + 0 ≤ mT) (hsl : sl + 0 ≤ sT) (hcat : (st.map fun v => v.category).sum ≤ 8) {F : Option (Int32 × Mem)} {K : Int32 → Mem → Option ρ} (h : mm_b2 F K = some res) (ct : ∀ r M', F = some (r, M') → CM Γ.2.1 ω k y c' mL ret h' 0 0 As M (some (.int r)) M') (kk : ∀ r M', K r M' = some res → JJ Γ Q nL ω k M' ce sl (pc + 3) lv (.int r :: st)) : JJ Γ Q nL ω k M ce sl pc lv stk := by
  obtain ⟨r, M2, h3, h4⟩ := mm_b2_spec h
  exact jv_callS C L d hn hst hh1 hce hsl hcat (ct r M2 h3) (kk r M2 h4)
theorem jv_vV (C : Cx Γ cc nL own ω hh mT sT) {idx a ci n mL h' mc ms : Nat} {y : MethodName} {c' : ByteArray} {ret : Option FieldType} {T : u_T} {N : Nat} {As stk : List Value} (L : jv_LV own idx y c' mL ret n) (hc : cl_L[ci]? = some (y.cls, T, N)) (d : decode cc pc = .ok (.invokevirtual idx, 3)) (hn : As.length = n) (hst : stk = As.reverse ++ .ref a :: st) (hh1 : h' + 1 ≤ hh) (hce : ce + mc ≤ mT) (hsl : sl + ms ≤ sT) (hcat : (st.map fun v => v.category).sum ≤ 8) {F : Option (Unit × Mem)} {K : Unit → Mem → Option ρ} (h : ((mm_ck M a ci).bind fun _ => mm_b2 F K) = some res) (ct : ∀ r M', F = some (r, M') → CM Γ.2.1 ω k y c' mL ret h' mc ms (.ref a :: As) M none M') (kk : ∀ r M', K r M' = some res → JJ Γ Q nL ω k M' (ce + mc) (sl + ms) (pc + 3) lv st) : JJ Γ Q nL ω k M ce sl pc lv stk := by
  obtain ⟨u, h1, h2⟩ := Option.bind_eq_some_iff.mp h
  obtain ⟨r, M2, h3, h4⟩ := mm_b2_spec h2
  exact jv_callV C L hc h1 d hn hst hh1 hce hsl hcat (ct r M2 h3) (kk r M2 h4)
theorem jv_sV (C : Cx Γ cc nL own ω hh mT sT) {idx n mL h' mc ms : Nat} {y : MethodName} {c' : ByteArray} {ret : Option FieldType} {As stk : List Value} (L : jv_LS own idx y c' mL ret n) (d : decode cc pc = .ok (.invokestatic idx, 3)) (hn : As.length = n) (hst : stk = As.reverse ++ st) (hh1 : h' + 1 ≤ hh) (hce : ce + mc ≤ mT) (hsl : sl + ms ≤ sT) (hcat : (st.map fun v => v.category).sum ≤ 8) {F : Option (Unit × Mem)} {K : Unit → Mem → Option ρ} (h : mm_b2 F K = some res) (ct : ∀ r M', F = some (r, M') → CM Γ.2.1 ω k y c' mL ret h' mc ms As M none M') (kk : ∀ r M', K r M' = some res → JJ Γ Q nL ω k M' (ce + mc) (sl + ms) (pc + 3) lv st) : JJ Γ Q nL ω k M ce sl pc lv stk := by
  obtain ⟨r, M2, h3, h4⟩ := mm_b2_spec h
  exact jv_callS C L d hn hst hh1 hce hsl hcat (ct r M2 h3) (kk r M2 h4)
theorem jv_iV (C : Cx Γ cc nL own ω hh mT sT) {idx a n mL h' mc ms : Nat} {y : MethodName} {c' : ByteArray} {As stk : List Value} (L : jv_LI own idx y c' mL n) (d : decode cc pc = .ok (.invokespecial idx, 3)) (hn : As.length = n) (hst : stk = As.reverse ++ .ref a :: st) (hh1 : h' + 1 ≤ hh) (hce : ce + mc ≤ mT) (hsl : sl + ms ≤ sT) (hcat : (st.map fun v => v.category).sum ≤ 8) {F : Option (Unit × Mem)} {K : Unit → Mem → Option ρ} (h : mm_b2 F K = some res) (ct : ∀ r M', F = some (r, M') → CM Γ.2.1 ω k y c' mL none h' mc ms (.ref a :: As) M none M') (kk : ∀ r M', K r M' = some res → JJ Γ Q nL ω k M' (ce + mc) (sl + ms) (pc + 3) lv st) : JJ Γ Q nL ω k M ce sl pc lv stk := by
  obtain ⟨r, M2, h3, h4⟩ := mm_b2_spec h
  exact jv_callI C L d hn hst hh1 hce hsl hcat (ct r M2 h3) (kk r M2 h4)
theorem jv_vV0 (C : Cx Γ cc nL own ω hh mT sT) {idx a ci n mL h' : Nat} {y : MethodName} {c' : ByteArray} {ret : Option FieldType} {T : u_T} {N : Nat} {As stk : List Value} (L : jv_LV own idx y c' mL ret n) (hc : cl_L[ci]? = some (y.cls, T, N)) (d : decode cc pc = .ok (.invokevirtual idx, 3)) (hn : As.length = n) (hst : stk = As.reverse ++ .ref a :: st) (hh1 : h' + 1 ≤ hh) (hce : ce + 0 ≤ mT) (hsl : sl + 0 ≤ sT) (hcat : (st.map fun v => v.category).sum ≤ 8) {F : Option (Unit × Mem)} {K : Unit → Mem → Option ρ} (h : ((mm_ck M a ci).bind fun _ => mm_b2 F K) = some res) (ct : ∀ r M', F = some (r, M') → CM Γ.2.1 ω k y c' mL ret h' 0 0 (.ref a :: As) M none M') (kk : ∀ r M', K r M' = some res → JJ Γ Q nL ω k M' ce sl (pc + 3) lv st) : JJ Γ Q nL ω k M ce sl pc lv stk := by
  obtain ⟨u, h1, h2⟩ := Option.bind_eq_some_iff.mp h
  obtain ⟨r, M2, h3, h4⟩ := mm_b2_spec h2
  exact jv_callV C L hc h1 d hn hst hh1 hce hsl hcat (ct r M2 h3) (kk r M2 h4)
theorem jv_sV0 (C : Cx Γ cc nL own ω hh mT sT) {idx n mL h' : Nat} {y : MethodName} {c' : ByteArray} {ret : Option FieldType} {As stk : List Value} (L : jv_LS own idx y c' mL ret n) (d : decode cc pc = .ok (.invokestatic idx, 3)) (hn : As.length = n) (hst : stk = As.reverse ++ st) (hh1 : h' + 1 ≤ hh) (hce : ce + 0 ≤ mT) (hsl : sl + 0 ≤ sT) (hcat : (st.map fun v => v.category).sum ≤ 8) {F : Option (Unit × Mem)} {K : Unit → Mem → Option ρ} (h : mm_b2 F K = some res) (ct : ∀ r M', F = some (r, M') → CM Γ.2.1 ω k y c' mL ret h' 0 0 As M none M') (kk : ∀ r M', K r M' = some res → JJ Γ Q nL ω k M' ce sl (pc + 3) lv st) : JJ Γ Q nL ω k M ce sl pc lv stk := by
  obtain ⟨r, M2, h3, h4⟩ := mm_b2_spec h
  exact jv_callS C L d hn hst hh1 hce hsl hcat (ct r M2 h3) (kk r M2 h4)
theorem jv_iV0 (C : Cx Γ cc nL own ω hh mT sT) {idx a n mL h' : Nat} {y : MethodName} {c' : ByteArray} {As stk : List Value} (L : jv_LI own idx y c' mL n) (d : decode cc pc = .ok (.invokespecial idx, 3)) (hn : As.length = n) (hst : stk = As.reverse ++ .ref a :: st) (hh1 : h' + 1 ≤ hh) (hce : ce + 0 ≤ mT) (hsl : sl + 0 ≤ sT) (hcat : (st.map fun v => v.category).sum ≤ 8) {F : Option (Unit × Mem)} {K : Unit → Mem → Option ρ} (h : mm_b2 F K = some res) (ct : ∀ r M', F = some (r, M') → CM Γ.2.1 ω k y c' mL none h' 0 0 (.ref a :: As) M none M') (kk : ∀ r M', K r M' = some res → JJ Γ Q nL ω k M' ce sl (pc + 3) lv st) : JJ Γ Q nL ω k M ce sl pc lv stk := by
  obtain ⟨r, M2, h3, h4⟩ := mm_b2_spec h
  exact jv_callI C L d hn hst hh1 hce hsl hcat (ct r M2 h3) (kk r M2 h4)
theorem jv_newa0 (C : Cx Γ cc nL own ω hh mT sT) {lim : Nat} {n : Int32} (g1 : Cond.arrayClass .int ∈ gd_L) (hlim : lim * 4 ≤ 536870912) (hce : ce + 1 ≤ mT) (hsl : sl + lim ≤ sT) (d : decode cc pc = .ok (.newarray .int, 2)) {K : Nat → Mem → Option ρ} (h : mm_b2 (mm_nA M lim n (fun N => .inl (0, N, .inl (fun _ => 0)))) K = some res) (kk : ∀ a M, K a M = some res → JJ Γ Q nL ω 0 M (ce + 1) (sl + lim) (pc + 2) lv (.ref a :: st)) : JJ Γ Q nL ω 0 M ce sl pc lv (.int n :: st) := by
  obtain ⟨a, M2, h3, h4⟩ := mm_b2_spec h
  exact jv_newa (at_ := .int) (ty := .int) (t := 0) (a0 := fun N => (N, .inl (fun _ => 0))) (K := fun q => K q.1 q.2) C g1 rfl rfl (fun h => h) (fun _ _ => rfl) rfl hlim hce hsl d (by rw [h3]; exact h4) (fun a M h => kk a M h)
theorem jv_newa1 (C : Cx Γ cc nL own ω hh mT sT) {lim : Nat} {n : Int32} (g1 : Cond.arrayClass .long ∈ gd_L) (hlim : lim * 8 ≤ 536870912) (hce : ce + 1 ≤ mT) (hsl : sl + lim ≤ sT) (d : decode cc pc = .ok (.newarray .long, 2)) {K : Nat → Mem → Option ρ} (h : mm_b2 (mm_nA M lim n (fun N => .inl (1, N, .inr (.inl (fun _ => 0))))) K = some res) (kk : ∀ a M, K a M = some res → JJ Γ Q nL ω 0 M (ce + 1) (sl + lim) (pc + 2) lv (.ref a :: st)) : JJ Γ Q nL ω 0 M ce sl pc lv (.int n :: st) := by
  obtain ⟨a, M2, h3, h4⟩ := mm_b2_spec h
  exact jv_newa (at_ := .long) (ty := .long) (t := 1) (a0 := fun N => (N, .inr (.inl (fun _ => 0)))) (K := fun q => K q.1 q.2) C g1 rfl rfl (fun h => h) (fun _ _ => rfl) rfl hlim hce hsl d (by rw [h3]; exact h4) (fun a M h => kk a M h)
theorem jv_newa2 (C : Cx Γ cc nL own ω hh mT sT) {lim : Nat} {n : Int32} (g1 : Cond.arrayClass .byte ∈ gd_L) (hlim : lim * 1 ≤ 536870912) (hce : ce + 1 ≤ mT) (hsl : sl + lim ≤ sT) (d : decode cc pc = .ok (.newarray .byte, 2)) {K : Nat → Mem → Option ρ} (h : mm_b2 (mm_nA M lim n (fun N => .inl (2, N, .inl (fun _ => 0)))) K = some res) (kk : ∀ a M, K a M = some res → JJ Γ Q nL ω 0 M (ce + 1) (sl + lim) (pc + 2) lv (.ref a :: st)) : JJ Γ Q nL ω 0 M ce sl pc lv (.int n :: st) := by
  obtain ⟨a, M2, h3, h4⟩ := mm_b2_spec h
  exact jv_newa (at_ := .byte) (ty := .byte) (t := 2) (a0 := fun N => (N, .inl (fun _ => 0))) (K := fun q => K q.1 q.2) C g1 rfl rfl (fun h => h) (fun _ _ => rfl) rfl hlim hce hsl d (by rw [h3]; exact h4) (fun a M h => kk a M h)
theorem jv_newa3 (C : Cx Γ cc nL own ω hh mT sT) {lim : Nat} {n : Int32} (g1 : Cond.arrayClass .boolean ∈ gd_L) (hlim : lim * 1 ≤ 536870912) (hce : ce + 1 ≤ mT) (hsl : sl + lim ≤ sT) (d : decode cc pc = .ok (.newarray .boolean, 2)) {K : Nat → Mem → Option ρ} (h : mm_b2 (mm_nA M lim n (fun N => .inl (3, N, .inl (fun _ => 0)))) K = some res) (kk : ∀ a M, K a M = some res → JJ Γ Q nL ω 0 M (ce + 1) (sl + lim) (pc + 2) lv (.ref a :: st)) : JJ Γ Q nL ω 0 M ce sl pc lv (.int n :: st) := by
  obtain ⟨a, M2, h3, h4⟩ := mm_b2_spec h
  exact jv_newa (at_ := .boolean) (ty := .boolean) (t := 3) (a0 := fun N => (N, .inl (fun _ => 0))) (K := fun q => K q.1 q.2) C g1 rfl rfl (fun h => h) (fun _ _ => rfl) rfl hlim hce hsl d (by rw [h3]; exact h4) (fun a M h => kk a M h)
theorem jv_newq2 (C : Cx Γ cc nL own ω hh mT sT) {idx lim : Nat} {n : Int32} (g1 : Cond.classLink own idx "CoinSorter$State" ∈ gd_L) (hlim : lim * 4 ≤ 536870912) (hce : ce + 1 ≤ mT) (hsl : sl + lim ≤ sT) (d : decode cc pc = .ok (.anewarray idx, 3)) {K : Nat → Mem → Option ρ} (h : mm_b2 (mm_nA M lim n (fun N => .inl (4, N, .inr (.inr (.inr (.inr (fun _ => none))))))) K = some res) (kk : ∀ a M, K a M = some res → JJ Γ Q nL ω 0 M (ce + 1) (sl + lim) (pc + 3) lv (.ref a :: st)) : JJ Γ Q nL ω 0 M ce sl pc lv (.int n :: st) := by
  obtain ⟨a, M2, h3, h4⟩ := mm_b2_spec h
  exact jv_newq (K := fun q => K q.1 q.2) C g1 hlim hce hsl d (by rw [h3]; exact h4) (fun a M h => kk a M h)
/-! string constants -/
def st_ck (u : UInt32) : Option Unit := if u.toNat < 6 then some () else none
def st_val (u : UInt32) : Option UInt32 := if u.toNat < 6 then some (u + 100) else none
def st_ln (u : UInt32) : Option Int32 := if 100 ≤ u.toNat ∧ u.toNat < 106 then some (Int32.ofNat (st_len.getD (u.toNat - 100) 0)) else none
def st_by (u : UInt32) (i : Int32) : Option Int32 := if (100 ≤ u.toNat ∧ u.toNat < 106) ∧ ¬ (i < 0 ∨ st_len.getD (u.toNat - 100) 0 ≤ i.toNatClampNeg) then some ((st_byt.getD (u.toNat - 100) []).getD i.toNatClampNeg 0) else none
theorem sh_S {ω : Wd} {u : UInt32} (h : u.toNat ≠ 200) : sh ω (.float u) = .ref (ω.2.1 u.toNat) := if_neg h
theorem sh_rf (ω : Wd) (u : UInt32) : ∃ o, sh ω (.float u) = va_rf o := by
  by_cases h : u.toNat = 200
  · exact ⟨_, if_pos h⟩
  · exact ⟨some _, if_neg h⟩
theorem jv_keep (hbs : wz ω ≤ Γ.s.heap.size ∧ ∀ q, q < wz ω → Γ.s.heap[q]? = ω.1[q]?) : ∀ a : Nat, a < ω.1.size → ¬ mA ω a → Γ.s.heap[a]? = ω.1[a]? := fun a h _ => hbs.2 a h
theorem jv_ldcS (C : Cx Γ cc nL own ω hh mT sT) {idx j : Nat} {tx : String} {u : UInt32} (g : (own, idx, tx, j) ∈ st_L) (hu : u.toNat = j) (hu2 : j ≠ 200) (d : decode cc pc = .ok (.ldc idx, 2)) (kk : JJ Γ Q nL ω k M ce sl (pc + 2) lv (.float u :: st)) : JJ Γ Q nL ω k M ce sl pc lv st := by
  obtain ⟨hx, hb, hml, hown, hts, hKW, hlk, hbs, hR⟩ := C
  intro H locs ls hl hP hz hS
  have h9 := kk H locs ls hl hP hz hS
  rw [List.map_cons, sh_S (by rw [hu]; exact hu2), hu] at h9
  exact va_ldcS hx hb hown (hKW.2.2.2.2.1 _ g) d h9
theorem jv_sload_n (C : Cx Γ cc nL own ω hh mT sT) {q : Fin 4} {i : Nat} {x : UInt32} (d : decode cc pc = .ok (.aload_n q, 1)) (hi : (q : Nat) = i) (j : Nat) (hj : lv[j]? = some (i, .float x)) (kk : JJ Γ Q nL ω k M ce sl (pc + 1) lv (.float x :: st)) : JJ Γ Q nL ω k M ce sl pc lv st := by
  obtain ⟨hx, hb, hml, hown, hts, hKW, hlk, hbs, hR⟩ := C
  intro H locs ls hl hP hz hS
  have h8 := lv_at hl j (shL_at hj)
  have h9 := kk H locs ls hl hP hz hS
  obtain ⟨o, ho⟩ := sh_rf ω x
  rw [List.map_cons, ho] at h9
  dsimp only at h8
  rw [ho] at h8
  cases o with
  | none => exact lv_aload_nN hx hb d hi h8 h9
  | some a => exact lv_aload_n hx hb d hi h8 h9
theorem jv_gSv (C : Cx Γ cc nL own ω hh mT sT) {idx : Nat} {u : UInt32} (g : Cond.fieldLink own idx "java/lang/String" "value" "[B" ∈ gd_L) (d : decode cc pc = .ok (.getfield idx, 3)) {K : UInt32 → Option ρ} (h : (st_val u).bind K = some res) (kk : ∀ v, K v = some res → JJ Γ Q nL ω k M ce sl (pc + 3) lv (.float v :: st)) : JJ Γ Q nL ω k M ce sl pc lv (.float u :: st) := by
  obtain ⟨hx, hb, hml, hown, hts, hKW, hlk, hbs, hR⟩ := C
  intro H locs ls hl hP hz hS
  obtain ⟨v, h1, h2⟩ := Option.bind_eq_some_iff.mp h
  unfold st_val at h1
  split at h1
  · rename_i hu
    cases h1
    have e : (u + 100).toNat = 100 + u.toNat := by
      rw [UInt32.toNat_add]
      show (u.toNat + 100) % 2 ^ 32 = _
      omega
    have h9 := kk _ h2 H locs ls hl hP hz hS
    rw [List.map_cons, sh_S (by omega), e] at h9
    rw [List.map_cons, sh_S (by omega)]
    exact vk_getf hx hb ((hKW.2.2.2.1.kept (jv_keep hbs)).1 u.toNat hu).2.2.1 hS hown (hts _ g) (fun _ h => h) d h9
  · cases h1
theorem jv_gSc (C : Cx Γ cc nL own ω hh mT sT) {idx : Nat} {u : UInt32} (g : Cond.fieldLink own idx "java/lang/String" "coder" "B" ∈ gd_L) (d : decode cc pc = .ok (.getfield idx, 3)) {K : Unit → Option ρ} (h : (st_ck u).bind K = some res) (kk : ∀ v, K v = some res → JJ Γ Q nL ω k M ce sl (pc + 3) lv (.int 0 :: st)) : JJ Γ Q nL ω k M ce sl pc lv (.float u :: st) := by
  obtain ⟨hx, hb, hml, hown, hts, hKW, hlk, hbs, hR⟩ := C
  intro H locs ls hl hP hz hS
  obtain ⟨v, h1, h2⟩ := Option.bind_eq_some_iff.mp h
  unfold st_ck at h1
  split at h1
  · rename_i hu
    cases h1
    have h9 := kk _ h2 H locs ls hl hP hz hS
    rw [List.map_cons, sh_S (by omega)]
    exact vk_getf hx hb ((hKW.2.2.2.1.kept (jv_keep hbs)).1 u.toNat hu).2.1 hS hown (hts _ g) (fun _ h => h) d h9
  · cases h1
theorem jv_gsZ (C : Cx Γ cc nL own ω hh mT sT) {idx : Nat} (g : Cond.fieldLink own idx "java/lang/String" "COMPACT_STRINGS" "Z" ∈ gd_L) (d : decode cc pc = .ok (.getstatic idx, 3)) (kk : JJ Γ Q nL ω k M ce sl (pc + 3) lv (.int 1 :: st)) : JJ Γ Q nL ω k M ce sl pc lv st := by
  obtain ⟨hx, hb, hml, hown, hts, hKW, hlk, hbs, hR⟩ := C
  intro H locs ls hl hP hz hS
  exact va_gets hx hb (va_Z.kept hKW.2.2.2.2.2.2.2.1 (jv_keep hbs)) hS hown (hts _ g) (fun _ h => h) d (kk H locs ls hl hP hz hS)
theorem jv_gsF (C : Cx Γ cc nL own ω hh mT sT) {idx : Nat} (g : Cond.fieldLink own idx "jdk/internal/util/Preconditions" "SIOOBE_FORMATTER" "Ljava/util/function/BiFunction;" ∈ gd_L) (d : decode cc pc = .ok (.getstatic idx, 3)) (kk : JJ Γ Q nL ω k M ce sl (pc + 3) lv (.float 200 :: st)) : JJ Γ Q nL ω k M ce sl pc lv st := by
  obtain ⟨hx, hb, hml, hown, hts, hKW, hlk, hbs, hR⟩ := C
  intro H locs ls hl hP hz hS
  exact va_gets hx hb (va_Z.kept hKW.2.2.2.2.2.2.2.2 (jv_keep hbs)) hS hown (hts _ g) (fun _ h => h) d (kk H locs ls hl hP hz hS)
theorem jv_i2c (C : Cx Γ cc nL own ω hh mT sT) {x : Int32} (d : decode cc pc = .ok (.i2c, 1)) (kk : JJ Γ Q nL ω k M ce sl (pc + 1) lv (.int (x.toUInt32 % 65536).toInt32 :: st)) : JJ Γ Q nL ω k M ce sl pc lv (.int x :: st) := by
  obtain ⟨hx, hb, hml, hown, hts, hKW, hlk, hbs, hR⟩ := C
  intro H locs ls hl hP hz hS
  exact lv_i2c hx hb d rfl (kk H locs ls hl hP hz hS)
theorem jv_nret (C : Cx Γ cc nL own ω hh mT sT) {ty : FieldType} (hr : Γ.meth.sig.returnType = some ty) {x : Int32} (hn : narrow ty (.int x) = .int x) {r : Int32} {M' : Mem} (d : decode cc pc = .ok (.ireturn, 1)) (h : some (x, M) = some (r, M')) : JJ Γ (QF Γ ω k ce sl (some (.int r)) M') nL ω k M ce sl pc lv [.int x] := by
  obtain ⟨hx, hb, hml, hown, hts, hKW, hlk, hbs, hR⟩ := C
  intro H locs ls hl hP hz hS
  cases h
  exact W.zret hx hb hr hn (fun t ht hW => ⟨rfl, by rw [ht]; exact hP, by rw [ht]; exact hz, hS.F ht⟩) hS.2.2 d hlk
theorem jv_cret (C : Cx Γ cc nL own ω hh mT sT) (hr : Γ.meth.sig.returnType = some .char) {x : Int32} {r : Int32} {M' : Mem} (d : decode cc pc = .ok (.ireturn, 1)) (h : (if 0 ≤ x ∧ x < 65536 then some (x, M) else none) = some (r, M')) : JJ Γ (QF Γ ω k ce sl (some (.int r)) M') nL ω k M ce sl pc lv [.int x] := by
  split at h
  · rename_i hz
    obtain ⟨j, hj, rfl⟩ := nI_of (x := x) (Int32.not_lt.mpr hz.1)
    have hj2 : j < 65536 := (nI_ltI hj (by decide)).mp (show nI j < nI 65536 from hz.2)
    exact jv_nret C hr (pk_charN hj2).1 d h
  · cases h
theorem jv_tlen (C : Cx Γ cc nL own ω hh mT sT) {u : UInt32} (d : decode cc pc = .ok (.arraylength, 1)) {K : Int32 → Option ρ} (h : (st_ln u).bind K = some res) (kk : ∀ v, K v = some res → JJ Γ Q nL ω k M ce sl (pc + 1) lv (.int v :: st)) : JJ Γ Q nL ω k M ce sl pc lv (.float u :: st) := by
  obtain ⟨hx, hb, hml, hown, hts, hKW, hlk, hbs, hR⟩ := C
  intro H locs ls hl hP hz hS
  obtain ⟨v, h1, h2⟩ := Option.bind_eq_some_iff.mp h
  unfold st_ln at h1
  split at h1
  · rename_i hu
    cases h1
    have h9 := kk _ h2 H locs ls hl hP hz hS
    obtain ⟨cell, q1, q2, q3, q4, q5, q6, q7⟩ := ((hKW.2.2.2.1.kept (jv_keep hbs)).1 (u.toNat - 100) (by omega)).2.2.2.kept hS.2.1
    rw [List.map_cons, sh_S (by omega)]
    dsimp only at q1
    rw [show 100 + (u.toNat - 100) = u.toNat by omega] at q1
    exact W.alen hx hb q1 q2 q5 rfl rfl d h9
  · cases h1
theorem jv_tald (C : Cx Γ cc nL own ω hh mT sT) {u : UInt32} {i : Int32} (d : decode cc pc = .ok (.baload, 1)) {K : Int32 → Option ρ} (h : (st_by u i).bind K = some res) (kk : ∀ v, K v = some res → JJ Γ Q nL ω k M ce sl (pc + 1) lv (.int v :: st)) : JJ Γ Q nL ω k M ce sl pc lv (.int i :: .float u :: st) := by
  obtain ⟨hx, hb, hml, hown, hts, hKW, hlk, hbs, hR⟩ := C
  intro H locs ls hl hP hz hS
  obtain ⟨v, h1, h2⟩ := Option.bind_eq_some_iff.mp h
  unfold st_by at h1
  split at h1
  · rename_i hu
    cases h1
    obtain ⟨hu, hi⟩ := hu
    have h9 := kk _ h2 H locs ls hl hP hz hS
    obtain ⟨cell, q1, q2, q3, q4, q5, q6, q7⟩ := ((hKW.2.2.2.1.kept (jv_keep hbs)).1 (u.toNat - 100) (by omega)).2.2.2.kept hS.2.1
    rw [List.map_cons, List.map_cons, sh_S (by omega)]
    dsimp only at q1
    rw [show 100 + (u.toNat - 100) = u.toNat by omega] at q1
    have hi2 : i.toNatClampNeg < st_len.getD (u.toNat - 100) 0 := Nat.not_le.mp fun q => hi (Or.inr q)
    exact W.bald hx hb q1 q2 q3 (fun q => q.elim (fun z => hi (Or.inl z)) (fun z => by omega)) (q6 _ hi2) rfl rfl d h9
  · cases h1
theorem jv_wI0 (C : Cx Γ cc nL own ω hh mT sT) {idx n mL h' : Nat} {u : UInt32} {y : MethodName} {c' : ByteArray} {ret : Option FieldType} {As stk : List Value} (L : jv_LV own idx y c' mL ret n) (hyc : y.cls = "java/lang/String") (d : decode cc pc = .ok (.invokevirtual idx, 3)) (hn : As.length = n) (hst : stk = As.reverse ++ .float u :: st) (hh1 : h' + 1 ≤ hh) (hce : ce + 0 ≤ mT) (hsl : sl + 0 ≤ sT) (hcat : (st.map fun v => v.category).sum ≤ 8) {F : Option (Int32 × Mem)} {K : Int32 → Mem → Option ρ} (h : ((st_ck u).bind fun _ => mm_b2 F K) = some res) (ct : ∀ r M', F = some (r, M') → CM Γ.2.1 ω k y c' mL ret h' 0 0 (.float u :: As) M (some (.int r)) M') (kk : ∀ r M', K r M' = some res → JJ Γ Q nL ω k M' ce sl (pc + 3) lv (.int r :: st)) : JJ Γ Q nL ω k M ce sl pc lv stk := by
  obtain ⟨uu, h1, h2⟩ := Option.bind_eq_some_iff.mp h
  obtain ⟨r, M2, h3, h4⟩ := mm_b2_spec h2
  have ct := ct r M2 h3
  have kk := kk r M2 h4
  unfold st_ck at h1
  split at h1
  · rename_i hu
    obtain ⟨hx, hb, hml, hown, hts, hKW, hlk, hbs, hR⟩ := C
    obtain ⟨⟨lk, li, lc, ld, lm⟩, l1, l2⟩ := L
    intro H locs ls hl hP hz hS
    have hcat' : ((st.map (sh ω)).map fun v => v.category).sum ≤ 8 := by
      rw [List.map_map]; rw [show (fun v : Value => v.category) ∘ sh ω = (fun v : Value => v.category) from funext (sh_cat ω)]; exact hcat
    have hrm : (rm_ h' 0 0).frames + 1 ≤ Γ.2.2.2.1.frames ∧ 8 + (mL + 11) + (rm_ h' 0 0).locals ≤ Γ.2.2.2.1.locals := by
      rw [hR]; exact ⟨hh1, by show 8 + (mL + 11) + 100 * h' ≤ 100 * hh; omega⟩
    have hsu : sh ω (.float u) = .ref (ω.2.1 u.toNat) := sh_S (by omega)
    have hrc : ∃ cell : Cell, H[ω.2.1 u.toNat]? = some cell ∧ cell.vm.isStatics = false ∧ Γ.s.vm.findClass y.cls = some cell.cls := by
      rw [hyc]; exact vk_recv (hKW.2.2.2.1.kept (jv_keep hbs)) hu hS
    have hpre : PreV Γ.s H y.cls (ω.2.1 u.toNat) (PC ω k M (.float u :: As)) (As.map (sh ω)) := ⟨PC.blind, hrc, fun U hU hW => by
      have h7 := jv_pre (av := .float u :: As) hKW hbs hP hz hS hU hW
      rw [List.map_cons, hsu] at h7
      exact h7⟩
    have hstk : stk.map (sh ω) = (As.map (sh ω)).reverse ++ .ref (ω.2.1 u.toNat) :: st.map (sh ω) := by rw [hst, ← hsu]; simp
    have hce' : ce + 0 ≤ Γ.2.2.2.1.cells ∧ sl + 0 ≤ Γ.2.2.2.1.slots := by rw [hR]; exact ⟨hce, hsl⟩
    have hfin : ∀ (H1 : Heap) (locs1 : List Loc), va_P ω.2.2.2 cl_L (toW ω M2) H1 → H1.size = wz ω + M2.length + k → va_S (mA ω) Γ.s.heap H1 locs1 → W Γ.1 Γ.2.1 Γ.2.2.1 Γ.2.2.2.1 Γ.s Γ.m Γ.args Γ.below Γ.meth Γ.c H1 locs1 (ce + 0) (sl + 0) Q (F0 Γ.m (pc + 3) ls (((some (Value.int r)).map (sh ω)).toList ++ st.map (sh ω))) := fun H1 locs1 hP1 hz1 hS1 => kk H1 locs1 ls hl hP1 hz1 hS1
    rcases lk with lk | ⟨host, lk⟩
    · exact jv_back (va_runV (As := As.map (sh ω)) (rest := st.map (sh ω)) (b := ω.2.1 u.toNat) (C := y.cls) (Ts := gd_L) ⟨hx, hb, hml, hown, hts⟩ ct ⟨callB_of n hts (gd_in lc) rfl rfl rfl (hts _ li) (hts _ lk) ld hrm, hts _ l1, hts _ l2⟩ hpre rfl (by rw [List.length_map]; exact hn) hl.1 hstk (lv_room hcat') d hce') hS hfin
    · exact jv_back (va_runVN (As := As.map (sh ω)) (rest := st.map (sh ω)) (b := ω.2.1 u.toNat) (C := y.cls) (Ts := gd_L) ⟨hx, hb, hml, hown, hts⟩ ct ⟨va_cnB n hts (gd_in lc) rfl rfl rfl (hKW.2.1 _ lk) (hts _ li) ld hrm, hts _ l1, hts _ l2⟩ hpre rfl (by rw [List.length_map]; exact hn) hl.1 hstk (lv_room hcat') d hce') hS hfin
  · cases h1
end JV2
theorem mt_ofF {l : Launch} {y : MethodName} {ws ws' : List Cond} {rm : Room} {Pc : Array Value → State → Prop} {Qc : Array Value → State → Outcome → State → Prop} {mc ms : Nat} {free : Addr → Prop} {cc : ByteArray} {maxL : Nat} {ret : Option FieldType}
    (hy : plainFor y = true) (hw : ws = Cond.code y cc maxL ret :: ws')
    (body : ∀ p e s m args below meth c s₁, BodyLoose p l y (headSpec ws rm) cc maxL ret e s m args below meth c s₁ → c.maxLocals = maxL → Pc args s →
      W p l e (headSpec ws rm).room s m args below meth c s.heap [] 0 0 (MQ below Qc args s mc ms free) (entryFrame m args maxL)) : Met l y ws rm Pc Qc mc ms free := by
  refine MetFree.of_bodySF (code := cc) (maxLocals := maxL) (ret := ret) hy ?_ ?_
  · intro args s m h hn
    obtain ⟨meth, c, h1, h2, h3, h4, h5, h6, -, -⟩ := Cond.code_spec hn (atoms_spec (ws := ws) h _ (by rw [hw]; exact List.mem_cons_self))
    exact ⟨meth, c, h1, h2, h3, h4, h5, h6⟩
  · intro p e s m args below meth c s₁ B hml hP _
    have hh0 : s₁.heap = s.heap := by rw [B.state]; rfl
    obtain ⟨t, a1, o, b1, b2, b3⟩ := body p e s m args below meth c s₁ B hml hP s₁ hh0 (Stand.of_body B)
    exact ⟨t, o, a1, b1, b2, ⟨b3.1, b3.2⟩⟩
theorem CM.ofF {l : Launch} {ω : Wd} {k : Nat} {y : MethodName} {cc : ByteArray} {mL : Nat} {ret : Option FieldType} {h mc ms : Nat} {av : List Value} {M M' : Mem} {r : Option Value} (hy : plainFor y = true) (hlen : (lg_sl av).length ≤ mL)
    (body : ∀ Γ : Gm, Γ.2.1 = l → Cx Γ cc mL y.cls ω h mc ms → Γ.meth.sig.returnType = ret → Γ.meth.name = y.name → JJ Γ (QF Γ ω k mc ms r M') mL ω k M 0 0 0 (lv_args 0 av) []) : CM l ω k y cc mL ret h mc ms av M r M' := by
  refine mt_ofF (cc := cc) (maxL := mL) (ret := ret) hy rfl ?_
  intro p e s m args below meth c s₁ B hml hv
  obtain ⟨rfl, hKW, hP, hz, hb0⟩ := hv
  have hts := atoms_spec (ws := Cond.code y cc mL ret :: gd_L) B.pre
  have hC : Cx (p, l, e, rm_ h mc ms, s, m, (av.map (sh ω)).toArray, below, meth, c) cc mL y.cls ω h mc ms := ⟨B.exec, B.bytes, hml, findClass_of_methodNamed B.named, fun w hw => hts w (List.mem_cons_of_mem _ hw), hKW, B.notSynchronized, ⟨by show wz ω ≤ s.heap.size; omega, hb0⟩, rfl⟩
  have hb1 := body (p, l, e, rm_ h mc ms, s, m, (av.map (sh ω)).toArray, below, meth, c) rfl hC B.returns (name_of_methodNamed B.named B.method).1
  have hsl : (lg_sl (av.map (sh ω))).length = (lg_sl av).length := by
    clear hb1 hC hts hP hz hb0 hKW B hml body hlen
    induction av with
    | nil => rfl
    | cons v vs ih =>
      simp only [lg_sl, List.map_cons, List.flatMap_cons, List.length_append, sh_cat] at ih ⊢
      rw [ih]
      congr 1
      split <;> rfl
  have hl := lv_entry (av.map (sh ω)) (n := mL) (by rw [hsl]; exact hlen)
  rw [shL_args] at hl
  rw [lg_entry_eq]
  exact hb1 s.heap [] _ hl hP hz va_S.rf
end
section
theorem fa_X0_14 : jv_FA RX0 14 0 0 := ⟨_, _, _, rfl, by decide, uw_X0, Or.inl gw_227⟩
theorem fa_X0_20 : jv_FA RX0 20 0 1 := ⟨_, _, _, rfl, by decide, uw_X0, Or.inl gw_231⟩
theorem fa_X0_26 : jv_FA RX0 26 0 2 := ⟨_, _, _, rfl, by decide, uw_X0, Or.inl gw_235⟩
theorem fa_X0_30 : jv_FA RX0 30 0 3 := ⟨_, _, _, rfl, by decide, uw_X0, Or.inl gw_240⟩
theorem fa_X1_11 : jv_FA RX1 11 1 0 := ⟨_, _, _, rfl, by decide, uw_X1, Or.inl gw_687⟩
theorem fa_X1_18 : jv_FA RX1 18 1 1 := ⟨_, _, _, rfl, by decide, uw_X1, Or.inl gw_688⟩
theorem fa_X1_22 : jv_FA RX1 22 1 2 := ⟨_, _, _, rfl, by decide, uw_X1, Or.inl gw_689⟩
theorem fa_X10_7 : jv_FA RX10 7 10 1 := ⟨_, _, _, rfl, by decide, uw_X10, Or.inl gw_1354⟩
theorem fa_X10_13 : jv_FA RX10 13 10 10 := ⟨_, _, _, rfl, by decide, uw_X10, Or.inl gw_1363⟩
theorem fa_X10_17 : jv_FA RX10 17 10 11 := ⟨_, _, _, rfl, by decide, uw_X10, Or.inl gw_1364⟩
theorem fa_X10_20 : jv_FA RX10 20 10 12 := ⟨_, _, _, rfl, by decide, uw_X10, Or.inl gw_1365⟩
theorem fa_X10_23 : jv_FA RX10 23 10 13 := ⟨_, _, _, rfl, by decide, uw_X10, Or.inl gw_1366⟩
theorem fa_X10_26 : jv_FA RX10 26 10 14 := ⟨_, _, _, rfl, by decide, uw_X10, Or.inl gw_1367⟩
theorem fa_X10_29 : jv_FA RX10 29 10 16 := ⟨_, _, _, rfl, by decide, uw_X10, Or.inl gw_1369⟩
theorem fa_X10_32 : jv_FA RX10 32 10 17 := ⟨_, _, _, rfl, by decide, uw_X10, Or.inl gw_1370⟩
theorem fa_X10_35 : jv_FA RX10 35 10 19 := ⟨_, _, _, rfl, by decide, uw_X10, Or.inl gw_1372⟩
theorem fa_X10_38 : jv_FA RX10 38 10 20 := ⟨_, _, _, rfl, by decide, uw_X10, Or.inl gw_1373⟩
theorem fa_X10_43 : jv_FA RX10 43 10 25 := ⟨_, _, _, rfl, by decide, uw_X10, Or.inl gw_1378⟩
theorem fa_X10_46 : jv_FA RX10 46 10 26 := ⟨_, _, _, rfl, by decide, uw_X10, Or.inl gw_1379⟩
theorem fa_X10_49 : jv_FA RX10 49 10 27 := ⟨_, _, _, rfl, by decide, uw_X10, Or.inl gw_1380⟩
theorem fa_X10_52 : jv_FA RX10 52 10 28 := ⟨_, _, _, rfl, by decide, uw_X10, Or.inl gw_1381⟩
theorem fa_X10_58 : jv_FA RX10 58 10 0 := ⟨_, _, _, rfl, by decide, uw_X10, Or.inl gw_1353⟩
theorem fa_X10_62 : jv_FA RX10 62 10 2 := ⟨_, _, _, rfl, by decide, uw_X10, Or.inl gw_1355⟩
theorem fa_X10_69 : jv_FA RX10 69 10 3 := ⟨_, _, _, rfl, by decide, uw_X10, Or.inl gw_1356⟩
theorem fa_X10_72 : jv_FA RX10 72 10 5 := ⟨_, _, _, rfl, by decide, uw_X10, Or.inl gw_1358⟩
theorem fa_X10_75 : jv_FA RX10 75 10 4 := ⟨_, _, _, rfl, by decide, uw_X10, Or.inl gw_1357⟩
theorem fa_X10_82 : jv_FA RX10 82 10 6 := ⟨_, _, _, rfl, by decide, uw_X10, Or.inl gw_1359⟩
theorem fa_X10_97 : jv_FA RX10 97 10 7 := ⟨_, _, _, rfl, by decide, uw_X10, Or.inl gw_1360⟩
theorem fa_X10_100 : jv_FA RX10 100 10 8 := ⟨_, _, _, rfl, by decide, uw_X10, Or.inl gw_1361⟩
theorem fa_X10_103 : jv_FA RX10 103 10 9 := ⟨_, _, _, rfl, by decide, uw_X10, Or.inl gw_1362⟩
theorem fa_X10_126 : jv_FA RX10 126 10 15 := ⟨_, _, _, rfl, by decide, uw_X10, Or.inl gw_1368⟩
theorem fa_X10_160 : jv_FA RX10 160 10 18 := ⟨_, _, _, rfl, by decide, uw_X10, Or.inl gw_1371⟩
theorem fa_X10_181 : jv_FA RX10 181 10 21 := ⟨_, _, _, rfl, by decide, uw_X10, Or.inl gw_1374⟩
theorem fa_X10_184 : jv_FA RX10 184 10 22 := ⟨_, _, _, rfl, by decide, uw_X10, Or.inl gw_1375⟩
theorem fa_X10_187 : jv_FA RX10 187 10 23 := ⟨_, _, _, rfl, by decide, uw_X10, Or.inl gw_1376⟩
theorem fa_X10_190 : jv_FA RX10 190 10 24 := ⟨_, _, _, rfl, by decide, uw_X10, Or.inl gw_1377⟩
theorem fa_X2_10 : jv_FA RX2 10 0 0 := ⟨_, _, _, rfl, by decide, uw_X0, Or.inr ⟨_, gn_228⟩⟩
theorem fa_X2_26 : jv_FA RX2 26 0 1 := ⟨_, _, _, rfl, by decide, uw_X0, Or.inr ⟨_, gn_232⟩⟩
theorem fa_X2_35 : jv_FA RX2 35 2 0 := ⟨_, _, _, rfl, by decide, uw_X2, Or.inl gw_704⟩
theorem fa_X2_41 : jv_FA RX2 41 2 1 := ⟨_, _, _, rfl, by decide, uw_X2, Or.inl gw_705⟩
theorem fa_X3_14 : jv_FA RX3 14 3 0 := ⟨_, _, _, rfl, by decide, uw_X3, Or.inl gw_201⟩
theorem fa_X3_20 : jv_FA RX3 20 3 1 := ⟨_, _, _, rfl, by decide, uw_X3, Or.inl gw_204⟩
theorem fa_X3_23 : jv_FA RX3 23 3 2 := ⟨_, _, _, rfl, by decide, uw_X3, Or.inl gw_207⟩
theorem fa_X3_26 : jv_FA RX3 26 3 3 := ⟨_, _, _, rfl, by decide, uw_X3, Or.inl gw_209⟩
theorem fa_X3_29 : jv_FA RX3 29 3 4 := ⟨_, _, _, rfl, by decide, uw_X3, Or.inl gw_212⟩
theorem fa_X3_32 : jv_FA RX3 32 6 1 := ⟨_, _, _, rfl, by decide, uw_X6, Or.inr ⟨_, gn_190⟩⟩
theorem fa_X4_9 : jv_FA RX4 9 4 0 := ⟨_, _, _, rfl, by decide, uw_X4, Or.inl gw_137⟩
theorem fa_X4_15 : jv_FA RX4 15 4 1 := ⟨_, _, _, rfl, by decide, uw_X4, Or.inl gw_138⟩
theorem fa_X4_19 : jv_FA RX4 19 4 4 := ⟨_, _, _, rfl, by decide, uw_X4, Or.inl gw_141⟩
theorem fa_X4_22 : jv_FA RX4 22 4 5 := ⟨_, _, _, rfl, by decide, uw_X4, Or.inl gw_142⟩
theorem fa_X4_25 : jv_FA RX4 25 4 6 := ⟨_, _, _, rfl, by decide, uw_X4, Or.inl gw_144⟩
theorem fa_X4_29 : jv_FA RX4 29 4 7 := ⟨_, _, _, rfl, by decide, uw_X4, Or.inl gw_145⟩
theorem fa_X4_32 : jv_FA RX4 32 4 8 := ⟨_, _, _, rfl, by decide, uw_X4, Or.inl gw_146⟩
theorem fa_X4_38 : jv_FA RX4 38 4 2 := ⟨_, _, _, rfl, by decide, uw_X4, Or.inl gw_139⟩
theorem fa_X4_47 : jv_FA RX4 47 0 0 := ⟨_, _, _, rfl, by decide, uw_X0, Or.inr ⟨_, gn_229⟩⟩
theorem fa_X4_59 : jv_FA RX4 59 0 1 := ⟨_, _, _, rfl, by decide, uw_X0, Or.inr ⟨_, gn_233⟩⟩
theorem fa_X4_92 : jv_FA RX4 92 3 0 := ⟨_, _, _, rfl, by decide, uw_X3, Or.inr ⟨_, gn_202⟩⟩
theorem fa_X4_108 : jv_FA RX4 108 3 1 := ⟨_, _, _, rfl, by decide, uw_X3, Or.inr ⟨_, gn_205⟩⟩
theorem fa_X4_111 : jv_FA RX4 111 3 2 := ⟨_, _, _, rfl, by decide, uw_X3, Or.inr ⟨_, gn_208⟩⟩
theorem fa_X4_114 : jv_FA RX4 114 3 3 := ⟨_, _, _, rfl, by decide, uw_X3, Or.inr ⟨_, gn_210⟩⟩
theorem fa_X4_117 : jv_FA RX4 117 3 4 := ⟨_, _, _, rfl, by decide, uw_X3, Or.inr ⟨_, gn_213⟩⟩
theorem fa_X4_120 : jv_FA RX4 120 0 2 := ⟨_, _, _, rfl, by decide, uw_X0, Or.inr ⟨_, gn_238⟩⟩
theorem fa_X4_127 : jv_FA RX4 127 0 3 := ⟨_, _, _, rfl, by decide, uw_X0, Or.inr ⟨_, gn_241⟩⟩
theorem fa_X4_133 : jv_FA RX4 133 4 3 := ⟨_, _, _, rfl, by decide, uw_X4, Or.inl gw_140⟩
theorem fa_X5_9 : jv_FA RX5 9 5 0 := ⟨_, _, _, rfl, by decide, uw_X5, Or.inl gw_721⟩
theorem fa_X5_15 : jv_FA RX5 15 5 1 := ⟨_, _, _, rfl, by decide, uw_X5, Or.inl gw_722⟩
theorem fa_X5_19 : jv_FA RX5 19 5 2 := ⟨_, _, _, rfl, by decide, uw_X5, Or.inl gw_723⟩
theorem fa_X5_27 : jv_FA RX5 27 5 4 := ⟨_, _, _, rfl, by decide, uw_X5, Or.inl gw_725⟩
theorem fa_X5_37 : jv_FA RX5 37 6 1 := ⟨_, _, _, rfl, by decide, uw_X6, Or.inr ⟨_, gn_191⟩⟩
theorem fa_X5_41 : jv_FA RX5 41 0 2 := ⟨_, _, _, rfl, by decide, uw_X0, Or.inr ⟨_, gn_236⟩⟩
theorem fa_X5_50 : jv_FA RX5 50 5 3 := ⟨_, _, _, rfl, by decide, uw_X5, Or.inl gw_724⟩
theorem fa_X6_15 : jv_FA RX6 15 6 0 := ⟨_, _, _, rfl, by decide, uw_X6, Or.inl gw_188⟩
theorem fa_X6_21 : jv_FA RX6 21 6 1 := ⟨_, _, _, rfl, by decide, uw_X6, Or.inl gw_189⟩
theorem fa_X7_9 : jv_FA RX7 9 7 2 := ⟨_, _, _, rfl, by decide, uw_X7, Or.inl gw_621⟩
theorem fa_X7_20 : jv_FA RX7 20 7 5 := ⟨_, _, _, rfl, by decide, uw_X7, Or.inl gw_627⟩
theorem fa_X7_24 : jv_FA RX7 24 7 6 := ⟨_, _, _, rfl, by decide, uw_X7, Or.inl gw_629⟩
theorem fa_X7_27 : jv_FA RX7 27 7 7 := ⟨_, _, _, rfl, by decide, uw_X7, Or.inl gw_631⟩
theorem fa_X7_30 : jv_FA RX7 30 7 8 := ⟨_, _, _, rfl, by decide, uw_X7, Or.inl gw_633⟩
theorem fa_X7_36 : jv_FA RX7 36 7 9 := ⟨_, _, _, rfl, by decide, uw_X7, Or.inl gw_635⟩
theorem fa_X7_39 : jv_FA RX7 39 7 10 := ⟨_, _, _, rfl, by decide, uw_X7, Or.inl gw_637⟩
theorem fa_X7_42 : jv_FA RX7 42 7 11 := ⟨_, _, _, rfl, by decide, uw_X7, Or.inl gw_639⟩
theorem fa_X7_45 : jv_FA RX7 45 7 12 := ⟨_, _, _, rfl, by decide, uw_X7, Or.inl gw_641⟩
theorem fa_X7_48 : jv_FA RX7 48 7 13 := ⟨_, _, _, rfl, by decide, uw_X7, Or.inl gw_643⟩
theorem fa_X7_51 : jv_FA RX7 51 7 14 := ⟨_, _, _, rfl, by decide, uw_X7, Or.inl gw_645⟩
theorem fa_X7_54 : jv_FA RX7 54 7 0 := ⟨_, _, _, rfl, by decide, uw_X7, Or.inl gw_617⟩
theorem fa_X7_57 : jv_FA RX7 57 7 1 := ⟨_, _, _, rfl, by decide, uw_X7, Or.inl gw_619⟩
theorem fa_X7_60 : jv_FA RX7 60 0 6 := ⟨_, _, _, rfl, by decide, uw_X0, Or.inr ⟨_, gn_250⟩⟩
theorem fa_X7_63 : jv_FA RX7 63 7 3 := ⟨_, _, _, rfl, by decide, uw_X7, Or.inl gw_623⟩
theorem fa_X7_67 : jv_FA RX7 67 7 4 := ⟨_, _, _, rfl, by decide, uw_X7, Or.inl gw_625⟩
theorem fa_X7_73 : jv_FA RX7 73 0 2 := ⟨_, _, _, rfl, by decide, uw_X0, Or.inr ⟨_, gn_237⟩⟩
theorem fa_X7_76 : jv_FA RX7 76 6 1 := ⟨_, _, _, rfl, by decide, uw_X6, Or.inr ⟨_, gn_192⟩⟩
theorem fa_X8_14 : jv_FA RX8 14 8 0 := ⟨_, _, _, rfl, by decide, uw_X8, Or.inl gw_747⟩
theorem fa_X8_20 : jv_FA RX8 20 8 1 := ⟨_, _, _, rfl, by decide, uw_X8, Or.inl gw_748⟩
theorem fa_X8_29 : jv_FA RX8 29 6 1 := ⟨_, _, _, rfl, by decide, uw_X6, Or.inr ⟨_, gn_193⟩⟩
theorem fa_X9_9 : jv_FA RX9 9 9 0 := ⟨_, _, _, rfl, by decide, uw_X9, Or.inl gw_754⟩
theorem fa_X9_16 : jv_FA RX9 16 9 2 := ⟨_, _, _, rfl, by decide, uw_X9, Or.inl gw_756⟩
theorem fa_X9_23 : jv_FA RX9 23 9 3 := ⟨_, _, _, rfl, by decide, uw_X9, Or.inl gw_757⟩
theorem fa_X9_27 : jv_FA RX9 27 9 4 := ⟨_, _, _, rfl, by decide, uw_X9, Or.inl gw_758⟩
theorem fa_X9_33 : jv_FA RX9 33 9 5 := ⟨_, _, _, rfl, by decide, uw_X9, Or.inl gw_759⟩
theorem fa_X9_40 : jv_FA RX9 40 9 6 := ⟨_, _, _, rfl, by decide, uw_X9, Or.inl gw_760⟩
theorem fa_X9_44 : jv_FA RX9 44 9 7 := ⟨_, _, _, rfl, by decide, uw_X9, Or.inl gw_761⟩
theorem fa_X9_48 : jv_FA RX9 48 9 8 := ⟨_, _, _, rfl, by decide, uw_X9, Or.inl gw_762⟩
theorem fa_X9_55 : jv_FA RX9 55 9 9 := ⟨_, _, _, rfl, by decide, uw_X9, Or.inl gw_763⟩
theorem fa_X9_62 : jv_FA RX9 62 9 10 := ⟨_, _, _, rfl, by decide, uw_X9, Or.inl gw_764⟩
theorem fa_X9_69 : jv_FA RX9 69 9 11 := ⟨_, _, _, rfl, by decide, uw_X9, Or.inl gw_765⟩
theorem fa_X9_73 : jv_FA RX9 73 9 1 := ⟨_, _, _, rfl, by decide, uw_X9, Or.inl gw_755⟩
theorem fa_X9_96 : jv_FA RX9 96 4 5 := ⟨_, _, _, rfl, by decide, uw_X4, Or.inr ⟨_, gn_143⟩⟩
theorem fa_X9_102 : jv_FA RX9 102 0 0 := ⟨_, _, _, rfl, by decide, uw_X0, Or.inr ⟨_, gn_230⟩⟩
theorem fa_X9_117 : jv_FA RX9 117 0 1 := ⟨_, _, _, rfl, by decide, uw_X0, Or.inr ⟨_, gn_234⟩⟩
theorem fa_X9_120 : jv_FA RX9 120 0 2 := ⟨_, _, _, rfl, by decide, uw_X0, Or.inr ⟨_, gn_239⟩⟩
theorem fa_X9_124 : jv_FA RX9 124 6 1 := ⟨_, _, _, rfl, by decide, uw_X6, Or.inr ⟨_, gn_194⟩⟩
theorem fa_X9_129 : jv_FA RX9 129 3 0 := ⟨_, _, _, rfl, by decide, uw_X3, Or.inr ⟨_, gn_203⟩⟩
theorem fa_X9_136 : jv_FA RX9 136 0 3 := ⟨_, _, _, rfl, by decide, uw_X0, Or.inr ⟨_, gn_242⟩⟩
theorem fa_X9_159 : jv_FA RX9 159 7 0 := ⟨_, _, _, rfl, by decide, uw_X7, Or.inr ⟨_, gn_618⟩⟩
theorem fa_X9_162 : jv_FA RX9 162 7 1 := ⟨_, _, _, rfl, by decide, uw_X7, Or.inr ⟨_, gn_620⟩⟩
theorem fa_X9_170 : jv_FA RX9 170 7 2 := ⟨_, _, _, rfl, by decide, uw_X7, Or.inr ⟨_, gn_622⟩⟩
theorem fa_X9_186 : jv_FA RX9 186 7 5 := ⟨_, _, _, rfl, by decide, uw_X7, Or.inr ⟨_, gn_628⟩⟩
theorem fa_X9_189 : jv_FA RX9 189 7 6 := ⟨_, _, _, rfl, by decide, uw_X7, Or.inr ⟨_, gn_630⟩⟩
theorem fa_X9_192 : jv_FA RX9 192 7 3 := ⟨_, _, _, rfl, by decide, uw_X7, Or.inr ⟨_, gn_624⟩⟩
theorem fa_X9_199 : jv_FA RX9 199 7 7 := ⟨_, _, _, rfl, by decide, uw_X7, Or.inr ⟨_, gn_632⟩⟩
theorem fa_X9_202 : jv_FA RX9 202 7 8 := ⟨_, _, _, rfl, by decide, uw_X7, Or.inr ⟨_, gn_634⟩⟩
theorem fa_X9_208 : jv_FA RX9 208 7 4 := ⟨_, _, _, rfl, by decide, uw_X7, Or.inr ⟨_, gn_626⟩⟩
theorem fa_X9_211 : jv_FA RX9 211 7 9 := ⟨_, _, _, rfl, by decide, uw_X7, Or.inr ⟨_, gn_636⟩⟩
theorem fa_X9_214 : jv_FA RX9 214 7 10 := ⟨_, _, _, rfl, by decide, uw_X7, Or.inr ⟨_, gn_638⟩⟩
theorem fa_X9_217 : jv_FA RX9 217 7 11 := ⟨_, _, _, rfl, by decide, uw_X7, Or.inr ⟨_, gn_640⟩⟩
theorem fa_X9_223 : jv_FA RX9 223 7 12 := ⟨_, _, _, rfl, by decide, uw_X7, Or.inr ⟨_, gn_642⟩⟩
theorem fa_X9_237 : jv_FA RX9 237 5 4 := ⟨_, _, _, rfl, by decide, uw_X5, Or.inr ⟨_, gn_726⟩⟩
theorem fa_X9_248 : jv_FA RX9 248 7 13 := ⟨_, _, _, rfl, by decide, uw_X7, Or.inr ⟨_, gn_644⟩⟩
theorem fa_X9_254 : jv_FA RX9 254 7 14 := ⟨_, _, _, rfl, by decide, uw_X7, Or.inr ⟨_, gn_646⟩⟩
theorem fa_X9_269 : jv_FA RX9 269 2 1 := ⟨_, _, _, rfl, by decide, uw_X2, Or.inr ⟨_, gn_706⟩⟩
theorem fa_X9_283 : jv_FA RX9 283 3 1 := ⟨_, _, _, rfl, by decide, uw_X3, Or.inr ⟨_, gn_206⟩⟩
theorem fa_X9_286 : jv_FA RX9 286 3 3 := ⟨_, _, _, rfl, by decide, uw_X3, Or.inr ⟨_, gn_211⟩⟩
theorem fa_X9_309 : jv_FA RX9 309 0 4 := ⟨_, _, _, rfl, by decide, uw_X0, Or.inr ⟨_, gn_245⟩⟩
theorem fa_X9_315 : jv_FA RX9 315 0 5 := ⟨_, _, _, rfl, by decide, uw_X0, Or.inr ⟨_, gn_248⟩⟩
theorem fa_X9_346 : jv_FA RX9 346 1 2 := ⟨_, _, _, rfl, by decide, uw_X1, Or.inr ⟨_, gn_690⟩⟩
theorem fp_X0_14 : jv_FF RX0 14 0 0 (.object "CoinSorter$Kinds") := ⟨_, _, _, tyX0, rfl, by decide, uw_X0, tyX0_ok, nmX0, by decide +kernel, rfl, rfl, gw_227⟩
theorem fp_X0_20 : jv_FF RX0 20 0 1 (.object "CoinSorter$Kinds") := ⟨_, _, _, tyX0, rfl, by decide, uw_X0, tyX0_ok, nmX0, by decide +kernel, rfl, rfl, gw_231⟩
theorem fp_X0_26 : jv_FF RX0 26 0 2 (.object "CoinSorter$Row") := ⟨_, _, _, tyX0, rfl, by decide, uw_X0, tyX0_ok, nmX0, by decide +kernel, rfl, rfl, gw_235⟩
theorem fp_X0_30 : jv_FF RX0 30 0 3 (.object "CoinSorter$Row") := ⟨_, _, _, tyX0, rfl, by decide, uw_X0, tyX0_ok, nmX0, by decide +kernel, rfl, rfl, gw_240⟩
theorem fp_X0_33 : jv_FP RX0 33 0 4 .int := ⟨_, _, _, tyX0, rfl, by decide, uw_X0, tyX0_ok, nmX0, by decide +kernel, rfl, Or.inl gw_243⟩
theorem fp_X0_37 : jv_FP RX0 37 0 5 .int := ⟨_, _, _, tyX0, rfl, by decide, uw_X0, tyX0_ok, nmX0, by decide +kernel, rfl, Or.inl gw_246⟩
theorem fp_X0_40 : jv_FP RX0 40 0 6 .int := ⟨_, _, _, tyX0, rfl, by decide, uw_X0, tyX0_ok, nmX0, by decide +kernel, rfl, Or.inl gw_249⟩
theorem fp_X1_11 : jv_FF RX1 11 1 0 (.array (.object "CoinSorter$State")) := ⟨_, _, _, tyX1, rfl, by decide, uw_X1, tyX1_ok, nmX1, by decide +kernel, rfl, rfl, gw_687⟩
theorem fp_X1_18 : jv_FP RX1 18 1 1 .int := ⟨_, _, _, tyX1, rfl, by decide, uw_X1, tyX1_ok, nmX1, by decide +kernel, rfl, Or.inl gw_688⟩
theorem fp_X1_22 : jv_FP RX1 22 1 2 .int := ⟨_, _, _, tyX1, rfl, by decide, uw_X1, tyX1_ok, nmX1, by decide +kernel, rfl, Or.inl gw_689⟩
theorem fp_X10_7 : jv_FF RX10 7 10 1 (.array .byte) := ⟨_, _, _, tyX10, rfl, by decide, uw_X10, tyX10_ok, nmX10, by decide +kernel, rfl, rfl, gw_1354⟩
theorem fp_X10_13 : jv_FF RX10 13 10 10 (.array .int) := ⟨_, _, _, tyX10, rfl, by decide, uw_X10, tyX10_ok, nmX10, by decide +kernel, rfl, rfl, gw_1363⟩
theorem fp_X10_17 : jv_FF RX10 17 10 11 (.array .int) := ⟨_, _, _, tyX10, rfl, by decide, uw_X10, tyX10_ok, nmX10, by decide +kernel, rfl, rfl, gw_1364⟩
theorem fp_X10_20 : jv_FF RX10 20 10 12 (.array .int) := ⟨_, _, _, tyX10, rfl, by decide, uw_X10, tyX10_ok, nmX10, by decide +kernel, rfl, rfl, gw_1365⟩
theorem fp_X10_23 : jv_FF RX10 23 10 13 (.array .int) := ⟨_, _, _, tyX10, rfl, by decide, uw_X10, tyX10_ok, nmX10, by decide +kernel, rfl, rfl, gw_1366⟩
theorem fp_X10_26 : jv_FF RX10 26 10 14 (.array .int) := ⟨_, _, _, tyX10, rfl, by decide, uw_X10, tyX10_ok, nmX10, by decide +kernel, rfl, rfl, gw_1367⟩
theorem fp_X10_29 : jv_FF RX10 29 10 16 (.array .int) := ⟨_, _, _, tyX10, rfl, by decide, uw_X10, tyX10_ok, nmX10, by decide +kernel, rfl, rfl, gw_1369⟩
theorem fp_X10_32 : jv_FF RX10 32 10 17 (.array .int) := ⟨_, _, _, tyX10, rfl, by decide, uw_X10, tyX10_ok, nmX10, by decide +kernel, rfl, rfl, gw_1370⟩
theorem fp_X10_35 : jv_FF RX10 35 10 19 (.array .int) := ⟨_, _, _, tyX10, rfl, by decide, uw_X10, tyX10_ok, nmX10, by decide +kernel, rfl, rfl, gw_1372⟩
theorem fp_X10_38 : jv_FF RX10 38 10 20 (.array .boolean) := ⟨_, _, _, tyX10, rfl, by decide, uw_X10, tyX10_ok, nmX10, by decide +kernel, rfl, rfl, gw_1373⟩
theorem fp_X10_43 : jv_FF RX10 43 10 25 (.array .int) := ⟨_, _, _, tyX10, rfl, by decide, uw_X10, tyX10_ok, nmX10, by decide +kernel, rfl, rfl, gw_1378⟩
theorem fp_X10_46 : jv_FF RX10 46 10 26 (.array .int) := ⟨_, _, _, tyX10, rfl, by decide, uw_X10, tyX10_ok, nmX10, by decide +kernel, rfl, rfl, gw_1379⟩
theorem fp_X10_49 : jv_FF RX10 49 10 27 (.array .int) := ⟨_, _, _, tyX10, rfl, by decide, uw_X10, tyX10_ok, nmX10, by decide +kernel, rfl, rfl, gw_1380⟩
theorem fp_X10_52 : jv_FF RX10 52 10 28 (.array .int) := ⟨_, _, _, tyX10, rfl, by decide, uw_X10, tyX10_ok, nmX10, by decide +kernel, rfl, rfl, gw_1381⟩
theorem fp_X10_58 : jv_FP RX10 58 10 0 .int := ⟨_, _, _, tyX10, rfl, by decide, uw_X10, tyX10_ok, nmX10, by decide +kernel, rfl, Or.inl gw_1353⟩
theorem fp_X10_62 : jv_FP RX10 62 10 2 .int := ⟨_, _, _, tyX10, rfl, by decide, uw_X10, tyX10_ok, nmX10, by decide +kernel, rfl, Or.inl gw_1355⟩
theorem fp_X10_69 : jv_FP RX10 69 10 3 .int := ⟨_, _, _, tyX10, rfl, by decide, uw_X10, tyX10_ok, nmX10, by decide +kernel, rfl, Or.inl gw_1356⟩
theorem fp_X10_72 : jv_FP RX10 72 10 5 .int := ⟨_, _, _, tyX10, rfl, by decide, uw_X10, tyX10_ok, nmX10, by decide +kernel, rfl, Or.inl gw_1358⟩
theorem fp_X10_75 : jv_FP RX10 75 10 4 .int := ⟨_, _, _, tyX10, rfl, by decide, uw_X10, tyX10_ok, nmX10, by decide +kernel, rfl, Or.inl gw_1357⟩
theorem fp_X10_82 : jv_FP RX10 82 10 6 .int := ⟨_, _, _, tyX10, rfl, by decide, uw_X10, tyX10_ok, nmX10, by decide +kernel, rfl, Or.inl gw_1359⟩
theorem fp_X10_97 : jv_FP RX10 97 10 7 .int := ⟨_, _, _, tyX10, rfl, by decide, uw_X10, tyX10_ok, nmX10, by decide +kernel, rfl, Or.inl gw_1360⟩
theorem fp_X10_100 : jv_FP RX10 100 10 8 .int := ⟨_, _, _, tyX10, rfl, by decide, uw_X10, tyX10_ok, nmX10, by decide +kernel, rfl, Or.inl gw_1361⟩
theorem fp_X10_103 : jv_FP RX10 103 10 9 .int := ⟨_, _, _, tyX10, rfl, by decide, uw_X10, tyX10_ok, nmX10, by decide +kernel, rfl, Or.inl gw_1362⟩
theorem fp_X10_126 : jv_FP RX10 126 10 15 .int := ⟨_, _, _, tyX10, rfl, by decide, uw_X10, tyX10_ok, nmX10, by decide +kernel, rfl, Or.inl gw_1368⟩
theorem fp_X10_160 : jv_FP RX10 160 10 18 .int := ⟨_, _, _, tyX10, rfl, by decide, uw_X10, tyX10_ok, nmX10, by decide +kernel, rfl, Or.inl gw_1371⟩
theorem fp_X10_181 : jv_FP RX10 181 10 21 .int := ⟨_, _, _, tyX10, rfl, by decide, uw_X10, tyX10_ok, nmX10, by decide +kernel, rfl, Or.inl gw_1374⟩
theorem fp_X10_184 : jv_FP RX10 184 10 22 .int := ⟨_, _, _, tyX10, rfl, by decide, uw_X10, tyX10_ok, nmX10, by decide +kernel, rfl, Or.inl gw_1375⟩
theorem fp_X10_187 : jv_FP RX10 187 10 23 .int := ⟨_, _, _, tyX10, rfl, by decide, uw_X10, tyX10_ok, nmX10, by decide +kernel, rfl, Or.inl gw_1376⟩
theorem fp_X10_190 : jv_FP RX10 190 10 24 .int := ⟨_, _, _, tyX10, rfl, by decide, uw_X10, tyX10_ok, nmX10, by decide +kernel, rfl, Or.inl gw_1377⟩
theorem fp_X2_35 : jv_FP RX2 35 2 0 .int := ⟨_, _, _, tyX2, rfl, by decide, uw_X2, tyX2_ok, nmX2, by decide +kernel, rfl, Or.inl gw_704⟩
theorem fp_X2_41 : jv_FP RX2 41 2 1 .int := ⟨_, _, _, tyX2, rfl, by decide, uw_X2, tyX2_ok, nmX2, by decide +kernel, rfl, Or.inl gw_705⟩
theorem fp_X3_14 : jv_FF RX3 14 3 0 (.object "CoinSorter$Row") := ⟨_, _, _, tyX3, rfl, by decide, uw_X3, tyX3_ok, nmX3, by decide +kernel, rfl, rfl, gw_201⟩
theorem fp_X3_20 : jv_FF RX3 20 3 1 (.object "CoinSorter$Row") := ⟨_, _, _, tyX3, rfl, by decide, uw_X3, tyX3_ok, nmX3, by decide +kernel, rfl, rfl, gw_204⟩
theorem fp_X3_23 : jv_FF RX3 23 3 2 (.object "CoinSorter$Row") := ⟨_, _, _, tyX3, rfl, by decide, uw_X3, tyX3_ok, nmX3, by decide +kernel, rfl, rfl, gw_207⟩
theorem fp_X3_26 : jv_FF RX3 26 3 3 (.object "CoinSorter$Row") := ⟨_, _, _, tyX3, rfl, by decide, uw_X3, tyX3_ok, nmX3, by decide +kernel, rfl, rfl, gw_209⟩
theorem fp_X3_29 : jv_FF RX3 29 3 4 (.object "CoinSorter$Row") := ⟨_, _, _, tyX3, rfl, by decide, uw_X3, tyX3_ok, nmX3, by decide +kernel, rfl, rfl, gw_212⟩
theorem fp_X4_9 : jv_FP RX4 9 4 0 (.array .byte) := ⟨_, _, _, tyX4, rfl, by decide, uw_X4, tyX4_ok, nmX4, by decide +kernel, rfl, Or.inl gw_137⟩
theorem fp_X4_15 : jv_FP RX4 15 4 1 .int := ⟨_, _, _, tyX4, rfl, by decide, uw_X4, tyX4_ok, nmX4, by decide +kernel, rfl, Or.inl gw_138⟩
theorem fp_X4_19 : jv_FP RX4 19 4 4 .int := ⟨_, _, _, tyX4, rfl, by decide, uw_X4, tyX4_ok, nmX4, by decide +kernel, rfl, Or.inl gw_141⟩
theorem fp_X4_22 : jv_FP RX4 22 4 5 .int := ⟨_, _, _, tyX4, rfl, by decide, uw_X4, tyX4_ok, nmX4, by decide +kernel, rfl, Or.inl gw_142⟩
theorem fp_X4_25 : jv_FP RX4 25 4 6 .boolean := ⟨_, _, _, tyX4, rfl, by decide, uw_X4, tyX4_ok, nmX4, by decide +kernel, rfl, Or.inl gw_144⟩
theorem fp_X4_29 : jv_FP RX4 29 4 7 .boolean := ⟨_, _, _, tyX4, rfl, by decide, uw_X4, tyX4_ok, nmX4, by decide +kernel, rfl, Or.inl gw_145⟩
theorem fp_X4_32 : jv_FP RX4 32 4 8 .boolean := ⟨_, _, _, tyX4, rfl, by decide, uw_X4, tyX4_ok, nmX4, by decide +kernel, rfl, Or.inl gw_146⟩
theorem fp_X4_38 : jv_FP RX4 38 4 2 .int := ⟨_, _, _, tyX4, rfl, by decide, uw_X4, tyX4_ok, nmX4, by decide +kernel, rfl, Or.inl gw_139⟩
theorem fp_X4_78 : jv_FP RX4 78 0 4 .int := ⟨_, _, _, tyX0, rfl, by decide, uw_X0, tyX0_ok, nmX0, by decide +kernel, rfl, Or.inr ⟨_, gn_244⟩⟩
theorem fp_X4_82 : jv_FP RX4 82 0 5 .int := ⟨_, _, _, tyX0, rfl, by decide, uw_X0, tyX0_ok, nmX0, by decide +kernel, rfl, Or.inr ⟨_, gn_247⟩⟩
theorem fp_X4_87 : jv_FP RX4 87 0 6 .int := ⟨_, _, _, tyX0, rfl, by decide, uw_X0, tyX0_ok, nmX0, by decide +kernel, rfl, Or.inr ⟨_, gn_251⟩⟩
theorem fp_X4_133 : jv_FP RX4 133 4 3 .int := ⟨_, _, _, tyX4, rfl, by decide, uw_X4, tyX4_ok, nmX4, by decide +kernel, rfl, Or.inl gw_140⟩
theorem fp_X5_9 : jv_FF RX5 9 5 0 (.array .int) := ⟨_, _, _, tyX5, rfl, by decide, uw_X5, tyX5_ok, nmX5, by decide +kernel, rfl, rfl, gw_721⟩
theorem fp_X5_15 : jv_FF RX5 15 5 1 (.array .long) := ⟨_, _, _, tyX5, rfl, by decide, uw_X5, tyX5_ok, nmX5, by decide +kernel, rfl, rfl, gw_722⟩
theorem fp_X5_19 : jv_FF RX5 19 5 2 (.array .long) := ⟨_, _, _, tyX5, rfl, by decide, uw_X5, tyX5_ok, nmX5, by decide +kernel, rfl, rfl, gw_723⟩
theorem fp_X5_27 : jv_FF RX5 27 5 4 (.object "CoinSorter$Row") := ⟨_, _, _, tyX5, rfl, by decide, uw_X5, tyX5_ok, nmX5, by decide +kernel, rfl, rfl, gw_725⟩
theorem fp_X5_50 : jv_FP RX5 50 5 3 .long := ⟨_, _, _, tyX5, rfl, by decide, uw_X5, tyX5_ok, nmX5, by decide +kernel, rfl, Or.inl gw_724⟩
theorem fp_X6_15 : jv_FF RX6 15 6 0 (.array .int) := ⟨_, _, _, tyX6, rfl, by decide, uw_X6, tyX6_ok, nmX6, by decide +kernel, rfl, rfl, gw_188⟩
theorem fp_X6_21 : jv_FP RX6 21 6 1 .int := ⟨_, _, _, tyX6, rfl, by decide, uw_X6, tyX6_ok, nmX6, by decide +kernel, rfl, Or.inl gw_189⟩
theorem fp_X7_9 : jv_FP RX7 9 7 2 .int := ⟨_, _, _, tyX7, rfl, by decide, uw_X7, tyX7_ok, nmX7, by decide +kernel, rfl, Or.inl gw_621⟩
theorem fp_X7_20 : jv_FF RX7 20 7 5 (.object "CoinSorter$Row") := ⟨_, _, _, tyX7, rfl, by decide, uw_X7, tyX7_ok, nmX7, by decide +kernel, rfl, rfl, gw_627⟩
theorem fp_X7_24 : jv_FF RX7 24 7 6 (.object "CoinSorter$Row") := ⟨_, _, _, tyX7, rfl, by decide, uw_X7, tyX7_ok, nmX7, by decide +kernel, rfl, rfl, gw_629⟩
theorem fp_X7_27 : jv_FF RX7 27 7 7 (.object "CoinSorter$Row") := ⟨_, _, _, tyX7, rfl, by decide, uw_X7, tyX7_ok, nmX7, by decide +kernel, rfl, rfl, gw_631⟩
theorem fp_X7_30 : jv_FF RX7 30 7 8 (.object "CoinSorter$Row") := ⟨_, _, _, tyX7, rfl, by decide, uw_X7, tyX7_ok, nmX7, by decide +kernel, rfl, rfl, gw_633⟩
theorem fp_X7_36 : jv_FF RX7 36 7 9 (.object "CoinSorter$Row") := ⟨_, _, _, tyX7, rfl, by decide, uw_X7, tyX7_ok, nmX7, by decide +kernel, rfl, rfl, gw_635⟩
theorem fp_X7_39 : jv_FF RX7 39 7 10 (.object "CoinSorter$Row") := ⟨_, _, _, tyX7, rfl, by decide, uw_X7, tyX7_ok, nmX7, by decide +kernel, rfl, rfl, gw_637⟩
theorem fp_X7_42 : jv_FF RX7 42 7 11 (.object "CoinSorter$Row") := ⟨_, _, _, tyX7, rfl, by decide, uw_X7, tyX7_ok, nmX7, by decide +kernel, rfl, rfl, gw_639⟩
theorem fp_X7_45 : jv_FF RX7 45 7 12 (.object "CoinSorter$Row") := ⟨_, _, _, tyX7, rfl, by decide, uw_X7, tyX7_ok, nmX7, by decide +kernel, rfl, rfl, gw_641⟩
theorem fp_X7_48 : jv_FF RX7 48 7 13 (.object "CoinSorter$Row") := ⟨_, _, _, tyX7, rfl, by decide, uw_X7, tyX7_ok, nmX7, by decide +kernel, rfl, rfl, gw_643⟩
theorem fp_X7_51 : jv_FF RX7 51 7 14 (.object "CoinSorter$Row") := ⟨_, _, _, tyX7, rfl, by decide, uw_X7, tyX7_ok, nmX7, by decide +kernel, rfl, rfl, gw_645⟩
theorem fp_X7_54 : jv_FP RX7 54 7 0 .int := ⟨_, _, _, tyX7, rfl, by decide, uw_X7, tyX7_ok, nmX7, by decide +kernel, rfl, Or.inl gw_617⟩
theorem fp_X7_57 : jv_FP RX7 57 7 1 .int := ⟨_, _, _, tyX7, rfl, by decide, uw_X7, tyX7_ok, nmX7, by decide +kernel, rfl, Or.inl gw_619⟩
theorem fp_X7_63 : jv_FP RX7 63 7 3 .boolean := ⟨_, _, _, tyX7, rfl, by decide, uw_X7, tyX7_ok, nmX7, by decide +kernel, rfl, Or.inl gw_623⟩
theorem fp_X7_67 : jv_FP RX7 67 7 4 .int := ⟨_, _, _, tyX7, rfl, by decide, uw_X7, tyX7_ok, nmX7, by decide +kernel, rfl, Or.inl gw_625⟩
theorem fp_X8_14 : jv_FF RX8 14 8 0 (.object "CoinSorter$Row") := ⟨_, _, _, tyX8, rfl, by decide, uw_X8, tyX8_ok, nmX8, by decide +kernel, rfl, rfl, gw_747⟩
theorem fp_X8_20 : jv_FF RX8 20 8 1 (.object "CoinSorter$Row") := ⟨_, _, _, tyX8, rfl, by decide, uw_X8, tyX8_ok, nmX8, by decide +kernel, rfl, rfl, gw_748⟩
theorem fp_X9_9 : jv_FF RX9 9 9 0 (.array .byte) := ⟨_, _, _, tyX9, rfl, by decide, uw_X9, tyX9_ok, nmX9, by decide +kernel, rfl, rfl, gw_754⟩
theorem fp_X9_16 : jv_FF RX9 16 9 2 (.object "CoinSorter$Parser") := ⟨_, _, _, tyX9, rfl, by decide, uw_X9, tyX9_ok, nmX9, by decide +kernel, rfl, rfl, gw_756⟩
theorem fp_X9_23 : jv_FP RX9 23 9 3 (.object "CoinSorter$Config") := ⟨_, _, _, tyX9, rfl, by decide, uw_X9, tyX9_ok, nmX9, by decide +kernel, rfl, Or.inl gw_757⟩
theorem fp_X9_27 : jv_FP RX9 27 9 4 (.object "CoinSorter$Config") := ⟨_, _, _, tyX9, rfl, by decide, uw_X9, tyX9_ok, nmX9, by decide +kernel, rfl, Or.inl gw_758⟩
theorem fp_X9_33 : jv_FF RX9 33 9 5 (.object "CoinSorter$State") := ⟨_, _, _, tyX9, rfl, by decide, uw_X9, tyX9_ok, nmX9, by decide +kernel, rfl, rfl, gw_759⟩
theorem fp_X9_40 : jv_FF RX9 40 9 6 (.object "CoinSorter$History") := ⟨_, _, _, tyX9, rfl, by decide, uw_X9, tyX9_ok, nmX9, by decide +kernel, rfl, rfl, gw_760⟩
theorem fp_X9_44 : jv_FF RX9 44 9 7 (.array (.object "CoinSorter$State")) := ⟨_, _, _, tyX9, rfl, by decide, uw_X9, tyX9_ok, nmX9, by decide +kernel, rfl, rfl, gw_761⟩
theorem fp_X9_48 : jv_FF RX9 48 9 8 (.array .boolean) := ⟨_, _, _, tyX9, rfl, by decide, uw_X9, tyX9_ok, nmX9, by decide +kernel, rfl, rfl, gw_762⟩
theorem fp_X9_55 : jv_FF RX9 55 9 9 (.object "CoinSorter$Judge") := ⟨_, _, _, tyX9, rfl, by decide, uw_X9, tyX9_ok, nmX9, by decide +kernel, rfl, rfl, gw_763⟩
theorem fp_X9_62 : jv_FF RX9 62 9 10 (.object "CoinSorter$Payout") := ⟨_, _, _, tyX9, rfl, by decide, uw_X9, tyX9_ok, nmX9, by decide +kernel, rfl, rfl, gw_764⟩
theorem fp_X9_69 : jv_FF RX9 69 9 11 (.object "CoinSorter$Tuning") := ⟨_, _, _, tyX9, rfl, by decide, uw_X9, tyX9_ok, nmX9, by decide +kernel, rfl, rfl, gw_765⟩
theorem fp_X9_73 : jv_FP RX9 73 9 1 .int := ⟨_, _, _, tyX9, rfl, by decide, uw_X9, tyX9_ok, nmX9, by decide +kernel, rfl, Or.inl gw_755⟩
theorem fp_X9_159 : jv_FP RX9 159 7 0 .int := ⟨_, _, _, tyX7, rfl, by decide, uw_X7, tyX7_ok, nmX7, by decide +kernel, rfl, Or.inr ⟨_, gn_618⟩⟩
theorem fp_X9_162 : jv_FP RX9 162 7 1 .int := ⟨_, _, _, tyX7, rfl, by decide, uw_X7, tyX7_ok, nmX7, by decide +kernel, rfl, Or.inr ⟨_, gn_620⟩⟩
theorem fp_X9_170 : jv_FP RX9 170 7 2 .int := ⟨_, _, _, tyX7, rfl, by decide, uw_X7, tyX7_ok, nmX7, by decide +kernel, rfl, Or.inr ⟨_, gn_622⟩⟩
theorem fp_X9_192 : jv_FP RX9 192 7 3 .boolean := ⟨_, _, _, tyX7, rfl, by decide, uw_X7, tyX7_ok, nmX7, by decide +kernel, rfl, Or.inr ⟨_, gn_624⟩⟩
theorem fp_X9_208 : jv_FP RX9 208 7 4 .int := ⟨_, _, _, tyX7, rfl, by decide, uw_X7, tyX7_ok, nmX7, by decide +kernel, rfl, Or.inr ⟨_, gn_626⟩⟩
theorem lk_J0_335 : jv_LV RJ0 335 yJ0_coder_7d493 cJ0_coder_7d493 1 (some .byte) 0 := ⟨⟨Or.inl gw_439, gw_107, gw_442, ⟨by decide, by decide, by decide⟩, by decide⟩, gw_440, gw_441⟩
theorem lk_J0_492 : jv_LV RJ0 492 yJ0_isLatin1_aae02 cJ0_isLatin1_aae02 1 (some .boolean) 0 := ⟨⟨Or.inl gw_853, gw_107, gw_856, ⟨by decide, by decide, by decide⟩, by decide⟩, gw_854, gw_855⟩
theorem lk_J0_495 : jv_LS RJ0 495 yJ1_charAt_3b067 cJ1_charAt_3b067 2 (some .char) 2 := ⟨⟨Or.inl gw_857, gw_112, gw_859, ⟨by decide, by decide, by decide⟩, by decide⟩, gw_858⟩
theorem lk_J0_1059 : jv_LS RJ0 1059 yJ3_checkIndex_8e157 cJ3_checkIndex_8e157 3 (some .int) 3 := ⟨⟨Or.inl gw_863, gw_111, gw_865, ⟨by decide, by decide, by decide⟩, by decide⟩, gw_864⟩
theorem lk_J1_9 : jv_LS RJ1 9 yJ0_checkIndex_df160 cJ0_checkIndex_df160 2 none 2 := ⟨⟨Or.inl gw_860, gw_107, gw_862, ⟨by decide, by decide, by decide⟩, by decide⟩, gw_861⟩
theorem lk_J7_13 : jv_LS RJ7 13 yJ7_rangeCheck_23922 cJ7_rangeCheck_23922 3 none 3 := ⟨⟨Or.inl gw_285, gw_100, gw_287, ⟨by decide, by decide, by decide⟩, by decide⟩, gw_286⟩
theorem lk_X0_11 : jv_LI RX0 11 yX3_init cX3_init 2 1 := ⟨⟨Or.inr ⟨_, gn_175⟩, gw_96, gw_177, ⟨by decide, by decide, by decide⟩, by decide⟩, rfl, gw_176⟩
theorem lk_X0_25 : jv_LI RX0 25 yX6_init cX6_init 2 1 := ⟨⟨Or.inr ⟨_, gn_226⟩, gw_97, gw_183, ⟨by decide, by decide, by decide⟩, by decide⟩, rfl, gw_182⟩
theorem lk_X0_43 : jv_LV RX0 43 yX3_empty cX3_empty 1 none 0 := ⟨⟨Or.inr ⟨_, gn_807⟩, gw_96, gw_810, ⟨by decide, by decide, by decide⟩, by decide⟩, gw_809, gw_4⟩
theorem lk_X0_46 : jv_LV RX0 46 yX6_empty cX6_empty 1 none 0 := ⟨⟨Or.inr ⟨_, gn_815⟩, gw_97, gw_814, ⟨by decide, by decide, by decide⟩, by decide⟩, gw_813, gw_5⟩
theorem lk_X1_17 : jv_LI RX1 17 yX7_init cX7_init 1 0 := ⟨⟨Or.inr ⟨_, gn_686⟩, gw_99, gw_271, ⟨by decide, by decide, by decide⟩, by decide⟩, rfl, gw_270⟩
theorem lk_X1_25 : jv_LS RX1 25 yJ9_floorMod_7cf53 cJ9_floorMod_7cf53 3 (some .int) 2 := ⟨⟨Or.inl gw_1191, gw_98, gw_1193, ⟨by decide, by decide, by decide⟩, by decide⟩, gw_1192⟩
theorem lk_X1_31 : jv_LV RX1 31 yX7_copyFrom cX7_copyFrom 2 none 1 := ⟨⟨Or.inr ⟨_, gn_1194⟩, gw_99, gw_1197, ⟨by decide, by decide, by decide⟩, by decide⟩, gw_1196, gw_48⟩
theorem lk_X10_55 : jv_LV RX10 55 yX10_clearState cX10_clearState 2 none 0 := ⟨⟨Or.inl gw_1349, gw_121, gw_1352, ⟨by decide, by decide, by decide⟩, by decide⟩, gw_1351, gw_56⟩
theorem lk_X10_65 : jv_LV RX10 65 yX10_appendInt cX10_appendInt 3 none 1 := ⟨⟨Or.inl gw_1449, gw_121, gw_1452, ⟨by decide, by decide, by decide⟩, by decide⟩, gw_1451, gw_57⟩
theorem lk_X10_78 : jv_LV RX10 78 yX10_byteAt cX10_byteAt 2 (some .int) 1 := ⟨⟨Or.inl gw_1464, gw_121, gw_1467, ⟨by decide, by decide, by decide⟩, by decide⟩, gw_1466, gw_59⟩
theorem lk_X10_89 : jv_LS RX10 89 yX10_within cX10_within 6 (some .boolean) 3 := ⟨⟨Or.inl gw_1457, gw_121, gw_1459, ⟨by decide, by decide, by decide⟩, by decide⟩, gw_1458⟩
theorem lk_X10_106 : jv_LV RX10 106 yJ0_length_8abf5 cJ0_length_8abf5 1 (some .int) 0 := ⟨⟨Or.inl gw_1481, gw_107, gw_438, ⟨by decide, by decide, by decide⟩, by decide⟩, gw_436, gw_437⟩
theorem lk_X10_111 : jv_LV RX10 111 yJ0_charAt_5068e cJ0_charAt_5068e 2 (some .char) 1 := ⟨⟨Or.inl gw_1482, gw_107, gw_852, ⟨by decide, by decide, by decide⟩, by decide⟩, gw_850, gw_851⟩
theorem lk_X10_115 : jv_LV RX10 115 yX10_must cX10_must 3 (some .boolean) 2 := ⟨⟨Or.inl gw_1483, gw_121, gw_1486, ⟨by decide, by decide, by decide⟩, by decide⟩, gw_1485, gw_62⟩
theorem lk_X10_119 : jv_LV RX10 119 yX10_nextToken cX10_nextToken 2 none 0 := ⟨⟨Or.inl gw_1460, gw_121, gw_1463, ⟨by decide, by decide, by decide⟩, by decide⟩, gw_1462, gw_58⟩
theorem lk_X10_122 : jv_LV RX10 122 yX10_number cX10_number 4 (some .int) 2 := ⟨⟨Or.inl gw_1491, gw_121, gw_1494, ⟨by decide, by decide, by decide⟩, by decide⟩, gw_1493, gw_64⟩
theorem lk_X10_131 : jv_LV RX10 131 yX10_is cX10_is 3 (some .boolean) 1 := ⟨⟨Or.inl gw_1477, gw_121, gw_1480, ⟨by decide, by decide, by decide⟩, by decide⟩, gw_1479, gw_61⟩
theorem lk_X10_135 : jv_LV RX10 135 yX10_readKind cX10_readKind 4 none 2 := ⟨⟨Or.inl gw_1487, gw_121, gw_1490, ⟨by decide, by decide, by decide⟩, by decide⟩, gw_1489, gw_63⟩
theorem lk_X10_145 : jv_LV RX10 145 yX10_once cX10_once 4 (some .int) 3 := ⟨⟨Or.inl gw_1498, gw_121, gw_1501, ⟨by decide, by decide, by decide⟩, by decide⟩, gw_1500, gw_65⟩
theorem lk_X10_153 : jv_LV RX10 153 yX10_statement cX10_statement 1 none 0 := ⟨⟨Or.inl gw_1472, gw_121, gw_1475, ⟨by decide, by decide, by decide⟩, by decide⟩, gw_1474, gw_60⟩
theorem lk_X10_156 : jv_LS RX10 156 yX10_adopt cX10_adopt 2 none 1 := ⟨⟨Or.inl gw_1504, gw_121, gw_1506, ⟨by decide, by decide, by decide⟩, by decide⟩, gw_1505⟩
theorem lk_X10_167 : jv_LV RX10 167 yX10_told cX10_told 2 (some .int) 1 := ⟨⟨Or.inl gw_1511, gw_121, gw_1514, ⟨by decide, by decide, by decide⟩, by decide⟩, gw_1513, gw_66⟩
theorem lk_X10_170 : jv_LV RX10 170 yX10_isType cX10_isType 2 (some .boolean) 1 := ⟨⟨Or.inl gw_1527, gw_121, gw_1530, ⟨by decide, by decide, by decide⟩, by decide⟩, gw_1529, gw_67⟩
theorem lk_X10_174 : jv_LV RX10 174 yX10_isBin cX10_isBin 2 (some .boolean) 1 := ⟨⟨Or.inl gw_1535, gw_121, gw_1538, ⟨by decide, by decide, by decide⟩, by decide⟩, gw_1537, gw_68⟩
theorem lk_X10_177 : jv_LS RX10 177 yX10_deviation cX10_deviation 4 (some .int) 3 := ⟨⟨Or.inl gw_1560, gw_121, gw_1562, ⟨by decide, by decide, by decide⟩, by decide⟩, gw_1561⟩
theorem lk_X10_193 : jv_LV RX10 193 yX10_scoreFor cX10_scoreFor 7 (some .int) 3 := ⟨⟨Or.inl gw_1556, gw_121, gw_1559, ⟨by decide, by decide, by decide⟩, by decide⟩, gw_1558, gw_70⟩
theorem lk_X10_201 : jv_LV RX10 201 yX10_look cX10_look 5 none 2 := ⟨⟨Or.inl gw_1572, gw_121, gw_1575, ⟨by decide, by decide, by decide⟩, by decide⟩, gw_1574, gw_72⟩
theorem lk_X10_205 : jv_LV RX10 205 yX10_fail cX10_fail 2 (some .int) 1 := ⟨⟨Or.inl gw_1547, gw_121, gw_1550, ⟨by decide, by decide, by decide⟩, by decide⟩, gw_1549, gw_69⟩
theorem lk_X10_208 : jv_LS RX10 208 yX10_isCoin cX10_isCoin 2 (some .boolean) 2 := ⟨⟨Or.inl gw_1551, gw_121, gw_1553, ⟨by decide, by decide, by decide⟩, by decide⟩, gw_1552⟩
theorem lk_X10_212 : jv_LV RX10 212 yX10_verdict cX10_verdict 4 (some .int) 3 := ⟨⟨Or.inl gw_1568, gw_121, gw_1571, ⟨by decide, by decide, by decide⟩, by decide⟩, gw_1570, gw_71⟩
theorem lk_X10_215 : jv_LV RX10 215 yX10_missing cX10_missing 2 (some .int) 1 := ⟨⟨Or.inl gw_1621, gw_121, gw_1624, ⟨by decide, by decide, by decide⟩, by decide⟩, gw_1623, gw_76⟩
theorem lk_X10_218 : jv_LV RX10 218 yX10_roomFor cX10_roomFor 4 (some .int) 1 := ⟨⟨Or.inl gw_1617, gw_121, gw_1620, ⟨by decide, by decide, by decide⟩, by decide⟩, gw_1619, gw_75⟩
theorem lk_X10_221 : jv_LV RX10 221 yX10_movable cX10_movable 2 (some .int) 0 := ⟨⟨Or.inl gw_1613, gw_121, gw_1616, ⟨by decide, by decide, by decide⟩, by decide⟩, gw_1615, gw_74⟩
theorem lk_X10_224 : jv_LV RX10 224 yX10_hasBin cX10_hasBin 3 (some .boolean) 1 := ⟨⟨Or.inl gw_1625, gw_121, gw_1628, ⟨by decide, by decide, by decide⟩, by decide⟩, gw_1627, gw_77⟩
theorem lk_X10_227 : jv_LV RX10 227 yX10_nextOutcome cX10_nextOutcome 4 (some .int) 0 := ⟨⟨Or.inl gw_1609, gw_121, gw_1612, ⟨by decide, by decide, by decide⟩, by decide⟩, gw_1611, gw_73⟩
theorem lk_X10_234 : jv_LS RX10 234 yX10_rejectPlace cX10_rejectPlace 1 (some .int) 1 := ⟨⟨Or.inl gw_1641, gw_121, gw_1643, ⟨by decide, by decide, by decide⟩, by decide⟩, gw_1642⟩
theorem lk_X10_237 : jv_LV RX10 237 yX10_isBag cX10_isBag 2 (some .boolean) 1 := ⟨⟨Or.inl gw_1666, gw_121, gw_1669, ⟨by decide, by decide, by decide⟩, by decide⟩, gw_1668, gw_78⟩
theorem lk_X10_240 : jv_LV RX10 240 yX10_partOf cX10_partOf 2 (some .int) 1 := ⟨⟨Or.inl gw_1678, gw_121, gw_1681, ⟨by decide, by decide, by decide⟩, by decide⟩, gw_1680, gw_79⟩
theorem lk_X10_243 : jv_LV RX10 243 yX10_coinValue cX10_coinValue 2 (some .int) 1 := ⟨⟨Or.inl gw_1702, gw_121, gw_1705, ⟨by decide, by decide, by decide⟩, by decide⟩, gw_1704, gw_82⟩
theorem lk_X10_246 : jv_LV RX10 246 yX10_fewestAt cX10_fewestAt 3 (some .int) 2 := ⟨⟨Or.inl gw_1706, gw_121, gw_1709, ⟨by decide, by decide, by decide⟩, by decide⟩, gw_1708, gw_83⟩
theorem lk_X10_249 : jv_LV RX10 249 yX10_layPayouts cX10_layPayouts 7 none 1 := ⟨⟨Or.inl gw_1698, gw_121, gw_1701, ⟨by decide, by decide, by decide⟩, by decide⟩, gw_1700, gw_81⟩
theorem lk_X10_254 : jv_LS RX10 254 yX10_isAmount cX10_isAmount 1 (some .boolean) 1 := ⟨⟨Or.inl gw_1690, gw_121, gw_1692, ⟨by decide, by decide, by decide⟩, by decide⟩, gw_1691⟩
theorem lk_X10_257 : jv_LV RX10 257 yX10_pays cX10_pays 5 (some .boolean) 1 := ⟨⟨Or.inl gw_1694, gw_121, gw_1697, ⟨by decide, by decide, by decide⟩, by decide⟩, gw_1696, gw_80⟩
theorem lk_X10_260 : jv_LV RX10 260 yX10_sampleVerdict cX10_sampleVerdict 3 (some .int) 2 := ⟨⟨Or.inl gw_1727, gw_121, gw_1730, ⟨by decide, by decide, by decide⟩, by decide⟩, gw_1729, gw_85⟩
theorem lk_X10_263 : jv_LS RX10 263 yX10_costOf cX10_costOf 2 (some .int) 2 := ⟨⟨Or.inl gw_1731, gw_121, gw_1733, ⟨by decide, by decide, by decide⟩, by decide⟩, gw_1732⟩
theorem lk_X10_268 : jv_LV RX10 268 yX10_costWith cX10_costWith 4 (some .int) 1 := ⟨⟨Or.inl gw_1723, gw_121, gw_1726, ⟨by decide, by decide, by decide⟩, by decide⟩, gw_1725, gw_84⟩
theorem lk_X10_271 : jv_LV RX10 271 yX10_keep cX10_keep 2 none 0 := ⟨⟨Or.inl gw_1742, gw_121, gw_1745, ⟨by decide, by decide, by decide⟩, by decide⟩, gw_1744, gw_86⟩
theorem lk_X10_274 : jv_LV RX10 274 yX10_takeFromLoop cX10_takeFromLoop 3 none 1 := ⟨⟨Or.inl gw_1766, gw_121, gw_1769, ⟨by decide, by decide, by decide⟩, by decide⟩, gw_1768, gw_89⟩
theorem lk_X10_277 : jv_LV RX10 277 yX10_note cX10_note 3 none 1 := ⟨⟨Or.inl gw_1770, gw_121, gw_1773, ⟨by decide, by decide, by decide⟩, by decide⟩, gw_1772, gw_90⟩
theorem lk_X10_280 : jv_LV RX10 280 yX10_takeFromHopper cX10_takeFromHopper 2 none 0 := ⟨⟨Or.inl gw_1774, gw_121, gw_1777, ⟨by decide, by decide, by decide⟩, by decide⟩, gw_1776, gw_91⟩
theorem lk_X10_283 : jv_LV RX10 283 yX10_isStep cX10_isStep 2 (some .boolean) 1 := ⟨⟨Or.inl gw_1758, gw_121, gw_1761, ⟨by decide, by decide, by decide⟩, by decide⟩, gw_1760, gw_87⟩
theorem lk_X10_286 : jv_LV RX10 286 yX10_doStep cX10_doStep 3 none 1 := ⟨⟨Or.inl gw_1762, gw_121, gw_1765, ⟨by decide, by decide, by decide⟩, by decide⟩, gw_1764, gw_88⟩
theorem lk_X2_16 : jv_LV RX2 16 yX3_count cX3_count 1 (some .int) 0 := ⟨⟨Or.inr ⟨_, gn_1027⟩, gw_96, gw_906, ⟨by decide, by decide, by decide⟩, by decide⟩, gw_905, gw_20⟩
theorem lk_X2_22 : jv_LV RX2 22 yX3_scoreOf cX3_scoreOf 6 (some .int) 3 := ⟨⟨Or.inr ⟨_, gn_1028⟩, gw_96, gw_1031, ⟨by decide, by decide, by decide⟩, by decide⟩, gw_1030, gw_33⟩
theorem lk_X3_11 : jv_LI RX3 11 yX6_init cX6_init 2 1 := ⟨⟨Or.inr ⟨_, gn_181⟩, gw_97, gw_183, ⟨by decide, by decide, by decide⟩, by decide⟩, rfl, gw_182⟩
theorem lk_X3_36 : jv_LV RX3 36 yX6_empty cX6_empty 1 none 0 := ⟨⟨Or.inr ⟨_, gn_811⟩, gw_97, gw_814, ⟨by decide, by decide, by decide⟩, by decide⟩, gw_813, gw_5⟩
theorem lk_X3_39 : jv_LV RX3 39 yX6_at cX6_at 2 (some .int) 1 := ⟨⟨Or.inr ⟨_, gn_1032⟩, gw_97, gw_947, ⟨by decide, by decide, by decide⟩, by decide⟩, gw_946, gw_25⟩
theorem lk_X3_43 : jv_LS RX3 43 yX3_deviation cX3_deviation 4 (some .int) 3 := ⟨⟨Or.inl gw_1033, gw_96, gw_1035, ⟨by decide, by decide, by decide⟩, by decide⟩, gw_1034⟩
theorem lk_X4_35 : jv_LV RX4 35 yX4_readToken cX4_readToken 1 none 0 := ⟨⟨Or.inl gw_824, gw_94, gw_827, ⟨by decide, by decide, by decide⟩, by decide⟩, gw_826, gw_8⟩
theorem lk_X4_43 : jv_LV RX4 43 yX4_isWord cX4_isWord 3 (some .boolean) 1 := ⟨⟨Or.inl gw_844, gw_94, gw_847, ⟨by decide, by decide, by decide⟩, by decide⟩, gw_846, gw_12⟩
theorem lk_X4_53 : jv_LV RX4 53 yX4_readKind cX4_readKind 3 none 2 := ⟨⟨Or.inl gw_873, gw_94, gw_876, ⟨by decide, by decide, by decide⟩, by decide⟩, gw_875, gw_13⟩
theorem lk_X4_64 : jv_LV RX4 64 yX4_readBin cX4_readBin 2 none 1 := ⟨⟨Or.inl gw_899, gw_94, gw_902, ⟨by decide, by decide, by decide⟩, by decide⟩, gw_901, gw_19⟩
theorem lk_X4_70 : jv_LV RX4 70 yX4_failIf cX4_failIf 3 none 2 := ⟨⟨Or.inl gw_881, gw_94, gw_884, ⟨by decide, by decide, by decide⟩, by decide⟩, gw_883, gw_15⟩
theorem lk_X4_74 : jv_LV RX4 74 yX4_readNumber cX4_readNumber 4 (some .int) 2 := ⟨⟨Or.inl gw_885, gw_94, gw_888, ⟨by decide, by decide, by decide⟩, by decide⟩, gw_887, gw_16⟩
theorem lk_X4_89 : jv_LV RX4 89 yX4_readSemicolon cX4_readSemicolon 1 none 0 := ⟨⟨Or.inl gw_910, gw_94, gw_913, ⟨by decide, by decide, by decide⟩, by decide⟩, gw_912, gw_21⟩
theorem lk_X4_98 : jv_LV RX4 98 yX6_isFull cX6_isFull 1 (some .boolean) 0 := ⟨⟨Or.inr ⟨_, gn_877⟩, gw_97, gw_880, ⟨by decide, by decide, by decide⟩, by decide⟩, gw_879, gw_14⟩
theorem lk_X4_104 : jv_LV RX4 104 yX6_add cX6_add 2 none 1 := ⟨⟨Or.inr ⟨_, gn_893⟩, gw_97, gw_896, ⟨by decide, by decide, by decide⟩, by decide⟩, gw_895, gw_18⟩
theorem lk_X4_123 : jv_LV RX4 123 yX3_count cX3_count 1 (some .int) 0 := ⟨⟨Or.inr ⟨_, gn_903⟩, gw_96, gw_906, ⟨by decide, by decide, by decide⟩, by decide⟩, gw_905, gw_20⟩
theorem lk_X4_130 : jv_LV RX4 130 yX4_number cX4_number 3 (some .int) 0 := ⟨⟨Or.inl gw_889, gw_94, gw_892, ⟨by decide, by decide, by decide⟩, by decide⟩, gw_891, gw_17⟩
theorem lk_X4_136 : jv_LV RX4 136 yX4_endOfRun cX4_endOfRun 4 (some .int) 2 := ⟨⟨Or.inl gw_828, gw_94, gw_831, ⟨by decide, by decide, by decide⟩, by decide⟩, gw_830, gw_9⟩
theorem lk_X4_139 : jv_LV RX4 139 yX4_byteAt cX4_byteAt 2 (some .int) 1 := ⟨⟨Or.inl gw_832, gw_94, gw_835, ⟨by decide, by decide, by decide⟩, by decide⟩, gw_834, gw_10⟩
theorem lk_X4_143 : jv_LS RX4 143 yX4_tokenOf cX4_tokenOf 1 (some .int) 1 := ⟨⟨Or.inl gw_836, gw_94, gw_838, ⟨by decide, by decide, by decide⟩, by decide⟩, gw_837⟩
theorem lk_X4_146 : jv_LV RX4 146 yJ0_length_8abf5 cJ0_length_8abf5 1 (some .int) 0 := ⟨⟨Or.inl gw_848, gw_107, gw_438, ⟨by decide, by decide, by decide⟩, by decide⟩, gw_436, gw_437⟩
theorem lk_X4_150 : jv_LV RX4 150 yJ0_charAt_5068e cJ0_charAt_5068e 2 (some .char) 1 := ⟨⟨Or.inl gw_849, gw_107, gw_852, ⟨by decide, by decide, by decide⟩, by decide⟩, gw_850, gw_851⟩
theorem lk_X5_24 : jv_LI RX5 24 yX6_init cX6_init 2 1 := ⟨⟨Or.inr ⟨_, gn_720⟩, gw_97, gw_183, ⟨by decide, by decide, by decide⟩, by decide⟩, rfl, gw_182⟩
theorem lk_X5_31 : jv_LS RX5 31 yJ7_fill_53178 cJ7_fill_53178 4 none 2 := ⟨⟨Or.inl gw_1112, gw_100, gw_1114, ⟨by decide, by decide, by decide⟩, by decide⟩, gw_1113⟩
theorem lk_X5_46 : jv_LV RX5 46 yX6_at cX6_at 2 (some .int) 1 := ⟨⟨Or.inr ⟨_, gn_1115⟩, gw_97, gw_947, ⟨by decide, by decide, by decide⟩, by decide⟩, gw_946, gw_25⟩
theorem lk_X5_56 : jv_LS RX5 56 yJ7_fill_bad5a cJ7_fill_bad5a 6 none 4 := ⟨⟨Or.inl gw_1121, gw_100, gw_1123, ⟨by decide, by decide, by decide⟩, by decide⟩, gw_1122⟩
theorem lk_X5_65 : jv_LV RX5 65 yX5_weighType cX5_weighType 8 none 4 := ⟨⟨Or.inl gw_1125, gw_119, gw_1128, ⟨by decide, by decide, by decide⟩, by decide⟩, gw_1127, gw_40⟩
theorem lk_X5_69 : jv_LV RX5 69 yX5_readCoins cX5_readCoins 10 (some .int) 1 := ⟨⟨Or.inl gw_1133, gw_119, gw_1136, ⟨by decide, by decide, by decide⟩, by decide⟩, gw_1135, gw_42⟩
theorem lk_X5_73 : jv_LV RX5 73 yX5_weighPacket cX5_weighPacket 8 none 3 := ⟨⟨Or.inl gw_1129, gw_119, gw_1132, ⟨by decide, by decide, by decide⟩, by decide⟩, gw_1131, gw_41⟩
theorem lk_X5_77 : jv_LV RX5 77 yX6_empty cX6_empty 1 none 0 := ⟨⟨Or.inr ⟨_, gn_1137⟩, gw_97, gw_814, ⟨by decide, by decide, by decide⟩, by decide⟩, gw_813, gw_5⟩
theorem lk_X5_80 : jv_LV RX5 80 yX6_add cX6_add 2 none 1 := ⟨⟨Or.inr ⟨_, gn_1138⟩, gw_97, gw_896, ⟨by decide, by decide, by decide⟩, by decide⟩, gw_895, gw_18⟩
theorem lk_X6_25 : jv_LV RX6 25 yX6_has cX6_has 2 (some .boolean) 1 := ⟨⟨Or.inl gw_1228, gw_97, gw_1007, ⟨by decide, by decide, by decide⟩, by decide⟩, gw_1006, gw_29⟩
theorem lk_X6_32 : jv_LS RX6 32 yJ7_fill_fda19 cJ7_fill_fda19 5 none 4 := ⟨⟨Or.inl gw_282, gw_100, gw_284, ⟨by decide, by decide, by decide⟩, by decide⟩, gw_283⟩
theorem lk_X7_17 : jv_LI RX7 17 yX6_init cX6_init 2 1 := ⟨⟨Or.inr ⟨_, gn_274⟩, gw_97, gw_183, ⟨by decide, by decide, by decide⟩, by decide⟩, rfl, gw_182⟩
theorem lk_X7_33 : jv_LV RX7 33 yX6_fillWithZeros cX6_fillWithZeros 2 none 1 := ⟨⟨Or.inr ⟨_, gn_275⟩, gw_97, gw_278, ⟨by decide, by decide, by decide⟩, by decide⟩, gw_277, gw_0⟩
theorem lk_X7_70 : jv_LV RX7 70 yX6_empty cX6_empty 1 none 0 := ⟨⟨Or.inr ⟨_, gn_922⟩, gw_97, gw_814, ⟨by decide, by decide, by decide⟩, by decide⟩, gw_813, gw_5⟩
theorem lk_X7_79 : jv_LV RX7 79 yX6_isFull cX6_isFull 1 (some .boolean) 0 := ⟨⟨Or.inr ⟨_, gn_1237⟩, gw_97, gw_880, ⟨by decide, by decide, by decide⟩, by decide⟩, gw_879, gw_14⟩
theorem lk_X7_83 : jv_LV RX7 83 yX6_removeAt cX6_removeAt 4 (some .int) 1 := ⟨⟨Or.inr ⟨_, gn_1238⟩, gw_97, gw_1227, ⟨by decide, by decide, by decide⟩, by decide⟩, gw_1226, gw_51⟩
theorem lk_X7_87 : jv_LV RX7 87 yX6_add cX6_add 2 none 1 := ⟨⟨Or.inr ⟨_, gn_1239⟩, gw_97, gw_896, ⟨by decide, by decide, by decide⟩, by decide⟩, gw_895, gw_18⟩
theorem lk_X7_90 : jv_LV RX7 90 yX6_copyFrom cX6_copyFrom 2 none 1 := ⟨⟨Or.inr ⟨_, gn_1198⟩, gw_97, gw_1201, ⟨by decide, by decide, by decide⟩, by decide⟩, gw_1200, gw_49⟩
theorem lk_X8_11 : jv_LI RX8 11 yX6_init cX6_init 2 1 := ⟨⟨Or.inr ⟨_, gn_746⟩, gw_97, gw_183, ⟨by decide, by decide, by decide⟩, by decide⟩, rfl, gw_182⟩
theorem lk_X8_23 : jv_LV RX8 23 yX6_empty cX6_empty 1 none 0 := ⟨⟨Or.inr ⟨_, gn_1165⟩, gw_97, gw_814, ⟨by decide, by decide, by decide⟩, by decide⟩, gw_813, gw_5⟩
theorem lk_X8_26 : jv_LV RX8 26 yX6_add cX6_add 2 none 1 := ⟨⟨Or.inr ⟨_, gn_1170⟩, gw_97, gw_896, ⟨by decide, by decide, by decide⟩, by decide⟩, gw_895, gw_18⟩
theorem lk_X8_33 : jv_LV RX8 33 yX6_at cX6_at 2 (some .int) 1 := ⟨⟨Or.inr ⟨_, gn_1175⟩, gw_97, gw_947, ⟨by decide, by decide, by decide⟩, by decide⟩, gw_946, gw_25⟩
theorem lk_X8_37 : jv_LV RX8 37 yX8_riseAt cX8_riseAt 4 (some .int) 1 := ⟨⟨Or.inl gw_1176, gw_120, gw_1179, ⟨by decide, by decide, by decide⟩, by decide⟩, gw_1178, gw_46⟩
theorem lk_X9_15 : jv_LI RX9 15 yX4_init cX4_init 1 0 := ⟨⟨Or.inr ⟨_, gn_133⟩, gw_94, gw_135, ⟨by decide, by decide, by decide⟩, by decide⟩, rfl, gw_134⟩
theorem lk_X9_22 : jv_LI RX9 22 yX0_init cX0_init 1 0 := ⟨⟨Or.inr ⟨_, gn_169⟩, gw_95, gw_171, ⟨by decide, by decide, by decide⟩, by decide⟩, rfl, gw_170⟩
theorem lk_X9_32 : jv_LI RX9 32 yX7_init cX7_init 1 0 := ⟨⟨Or.inr ⟨_, gn_269⟩, gw_99, gw_271, ⟨by decide, by decide, by decide⟩, by decide⟩, rfl, gw_270⟩
theorem lk_X9_39 : jv_LI RX9 39 yX1_init cX1_init 2 0 := ⟨⟨Or.inr ⟨_, gn_680⟩, gw_117, gw_682, ⟨by decide, by decide, by decide⟩, by decide⟩, rfl, gw_681⟩
theorem lk_X9_54 : jv_LI RX9 54 yX2_init cX2_init 1 0 := ⟨⟨Or.inr ⟨_, gn_700⟩, gw_118, gw_702, ⟨by decide, by decide, by decide⟩, by decide⟩, rfl, gw_701⟩
theorem lk_X9_61 : jv_LI RX9 61 yX5_init cX5_init 1 0 := ⟨⟨Or.inr ⟨_, gn_715⟩, gw_119, gw_717, ⟨by decide, by decide, by decide⟩, by decide⟩, rfl, gw_716⟩
theorem lk_X9_68 : jv_LI RX9 68 yX8_init cX8_init 1 0 := ⟨⟨Or.inr ⟨_, gn_741⟩, gw_120, gw_743, ⟨by decide, by decide, by decide⟩, by decide⟩, rfl, gw_742⟩
theorem lk_X9_77 : jv_LV RX9 77 yX9_appendWord cX9_appendWord 3 none 1 := ⟨⟨Or.inl gw_795, gw_93, gw_798, ⟨by decide, by decide, by decide⟩, by decide⟩, gw_797, gw_2⟩
theorem lk_X9_81 : jv_LV RX9 81 yX0_reset cX0_reset 1 none 0 := ⟨⟨Or.inr ⟨_, gn_803⟩, gw_95, gw_806, ⟨by decide, by decide, by decide⟩, by decide⟩, gw_805, gw_3⟩
theorem lk_X9_84 : jv_LV RX9 84 yX4_begin cX4_begin 3 none 2 := ⟨⟨Or.inr ⟨_, gn_816⟩, gw_94, gw_819, ⟨by decide, by decide, by decide⟩, by decide⟩, gw_818, gw_6⟩
theorem lk_X9_88 : jv_LV RX9 88 yX4_hasStatement cX4_hasStatement 1 (some .boolean) 0 := ⟨⟨Or.inr ⟨_, gn_820⟩, gw_94, gw_823, ⟨by decide, by decide, by decide⟩, by decide⟩, gw_822, gw_7⟩
theorem lk_X9_92 : jv_LV RX9 92 yX4_readStatement cX4_readStatement 2 none 1 := ⟨⟨Or.inr ⟨_, gn_839⟩, gw_94, gw_842, ⟨by decide, by decide, by decide⟩, by decide⟩, gw_841, gw_11⟩
theorem lk_X9_99 : jv_LV RX9 99 yX9_takeSpareConfig cX9_takeSpareConfig 3 none 0 := ⟨⟨Or.inl gw_914, gw_93, gw_917, ⟨by decide, by decide, by decide⟩, by decide⟩, gw_916, gw_22⟩
theorem lk_X9_106 : jv_LV RX9 106 yX3_count cX3_count 1 (some .int) 0 := ⟨⟨Or.inr ⟨_, gn_927⟩, gw_96, gw_906, ⟨by decide, by decide, by decide⟩, by decide⟩, gw_905, gw_20⟩
theorem lk_X9_112 : jv_LV RX9 112 yX7_reset cX7_reset 2 none 1 := ⟨⟨Or.inr ⟨_, gn_918⟩, gw_99, gw_921, ⟨by decide, by decide, by decide⟩, by decide⟩, gw_920, gw_23⟩
theorem lk_X9_114 : jv_LV RX9 114 yX1_forget cX1_forget 1 none 0 := ⟨⟨Or.inr ⟨_, gn_923⟩, gw_117, gw_926, ⟨by decide, by decide, by decide⟩, by decide⟩, gw_925, gw_24⟩
theorem lk_X9_132 : jv_LV RX9 132 yX6_at cX6_at 2 (some .int) 1 := ⟨⟨Or.inr ⟨_, gn_944⟩, gw_97, gw_947, ⟨by decide, by decide, by decide⟩, by decide⟩, gw_946, gw_25⟩
theorem lk_X9_139 : jv_LV RX9 139 yX9_isType cX9_isType 2 (some .boolean) 1 := ⟨⟨Or.inl gw_1000, gw_93, gw_1003, ⟨by decide, by decide, by decide⟩, by decide⟩, gw_1002, gw_28⟩
theorem lk_X9_150 : jv_LS RX9 150 yX9_isMeasurement cX9_isMeasurement 2 (some .boolean) 2 := ⟨⟨Or.inl gw_1184, gw_93, gw_1186, ⟨by decide, by decide, by decide⟩, by decide⟩, gw_1185⟩
theorem lk_X9_173 : jv_LV RX9 173 yX9_verdict cX9_verdict 4 (some .int) 3 := ⟨⟨Or.inl gw_1018, gw_93, gw_1021, ⟨by decide, by decide, by decide⟩, by decide⟩, gw_1020, gw_31⟩
theorem lk_X9_176 : jv_LV RX9 176 yX2_examine cX2_examine 9 none 3 := ⟨⟨Or.inr ⟨_, gn_1022⟩, gw_118, gw_1025, ⟨by decide, by decide, by decide⟩, by decide⟩, gw_1024, gw_32⟩
theorem lk_X9_180 : jv_LV RX9 180 yX2_verdictAt cX2_verdictAt 2 (some .int) 1 := ⟨⟨Or.inr ⟨_, gn_1038⟩, gw_118, gw_1041, ⟨by decide, by decide, by decide⟩, by decide⟩, gw_1040, gw_34⟩
theorem lk_X9_183 : jv_LV RX9 183 yX6_has cX6_has 2 (some .boolean) 1 := ⟨⟨Or.inr ⟨_, gn_1004⟩, gw_97, gw_1007, ⟨by decide, by decide, by decide⟩, by decide⟩, gw_1006, gw_29⟩
theorem lk_X9_196 : jv_LV RX9 196 yX9_nextOutcome cX9_nextOutcome 3 (some .int) 0 := ⟨⟨Or.inl gw_988, gw_93, gw_991, ⟨by decide, by decide, by decide⟩, by decide⟩, gw_990, gw_26⟩
theorem lk_X9_205 : jv_LS RX9 205 yX9_rejectIndex cX9_rejectIndex 1 (some .int) 1 := ⟨⟨Or.inl gw_1055, gw_93, gw_1057, ⟨by decide, by decide, by decide⟩, by decide⟩, gw_1056⟩
theorem lk_X9_220 : jv_LV RX9 220 yX9_discrepancyOf cX9_discrepancyOf 3 (some .int) 1 := ⟨⟨Or.inl gw_1086, gw_93, gw_1089, ⟨by decide, by decide, by decide⟩, by decide⟩, gw_1088, gw_36⟩
theorem lk_X9_231 : jv_LS RX9 231 yX9_isAmount cX9_isAmount 1 (some .boolean) 1 := ⟨⟨Or.inl gw_1101, gw_93, gw_1103, ⟨by decide, by decide, by decide⟩, by decide⟩, gw_1102⟩
theorem lk_X9_234 : jv_LV RX9 234 yX9_planPayout cX9_planPayout 2 (some .int) 1 := ⟨⟨Or.inl gw_1104, gw_93, gw_1107, ⟨by decide, by decide, by decide⟩, by decide⟩, gw_1106, gw_37⟩
theorem lk_X9_240 : jv_LV RX9 240 yX5_takeStock cX5_takeStock 5 none 2 := ⟨⟨Or.inr ⟨_, gn_1108⟩, gw_119, gw_1111, ⟨by decide, by decide, by decide⟩, by decide⟩, gw_1110, gw_38⟩
theorem lk_X9_244 : jv_LV RX9 244 yX5_plan cX5_plan 6 (some .int) 2 := ⟨⟨Or.inr ⟨_, gn_1116⟩, gw_119, gw_1119, ⟨by decide, by decide, by decide⟩, by decide⟩, gw_1118, gw_39⟩
theorem lk_X9_251 : jv_LS RX9 251 yX9_isMargin cX9_isMargin 1 (some .boolean) 1 := ⟨⟨Or.inl gw_1151, gw_93, gw_1153, ⟨by decide, by decide, by decide⟩, by decide⟩, gw_1152⟩
theorem lk_X9_257 : jv_LS RX9 257 yX9_diameterOf cX9_diameterOf 1 (some .int) 1 := ⟨⟨Or.inl gw_1008, gw_93, gw_1010, ⟨by decide, by decide, by decide⟩, by decide⟩, gw_1009⟩
theorem lk_X9_260 : jv_LS RX9 260 yX9_alloyOf cX9_alloyOf 1 (some .int) 1 := ⟨⟨Or.inl gw_1011, gw_93, gw_1013, ⟨by decide, by decide, by decide⟩, by decide⟩, gw_1012⟩
theorem lk_X9_263 : jv_LS RX9 263 yX9_cost cX9_cost 3 (some .int) 2 := ⟨⟨Or.inl gw_1154, gw_93, gw_1156, ⟨by decide, by decide, by decide⟩, by decide⟩, gw_1155⟩
theorem lk_X9_267 : jv_LV RX9 267 yX8_begin cX8_begin 1 none 0 := ⟨⟨Or.inr ⟨_, gn_1161⟩, gw_120, gw_1164, ⟨by decide, by decide, by decide⟩, by decide⟩, gw_1163, gw_43⟩
theorem lk_X9_272 : jv_LV RX9 272 yX8_add cX8_add 3 none 2 := ⟨⟨Or.inr ⟨_, gn_1166⟩, gw_120, gw_1169, ⟨by decide, by decide, by decide⟩, by decide⟩, gw_1168, gw_44⟩
theorem lk_X9_276 : jv_LV RX9 276 yX8_best cX8_best 6 (some .int) 0 := ⟨⟨Or.inr ⟨_, gn_1171⟩, gw_120, gw_1174, ⟨by decide, by decide, by decide⟩, by decide⟩, gw_1173, gw_45⟩
theorem lk_X9_279 : jv_LV RX9 279 yX1_push cX1_push 2 none 1 := ⟨⟨Or.inr ⟨_, gn_1187⟩, gw_117, gw_1190, ⟨by decide, by decide, by decide⟩, by decide⟩, gw_1189, gw_47⟩
theorem lk_X9_289 : jv_LV RX9 289 yX6_isFull cX6_isFull 1 (some .boolean) 0 := ⟨⟨Or.inr ⟨_, gn_1211⟩, gw_97, gw_880, ⟨by decide, by decide, by decide⟩, by decide⟩, gw_879, gw_14⟩
theorem lk_X9_292 : jv_LS RX9 292 yX9_coinOf cX9_coinOf 2 (some .int) 2 := ⟨⟨Or.inl gw_1212, gw_93, gw_1214, ⟨by decide, by decide, by decide⟩, by decide⟩, gw_1213⟩
theorem lk_X9_295 : jv_LV RX9 295 yX6_add cX6_add 2 none 1 := ⟨⟨Or.inr ⟨_, gn_1215⟩, gw_97, gw_896, ⟨by decide, by decide, by decide⟩, by decide⟩, gw_895, gw_18⟩
theorem lk_X9_297 : jv_LV RX9 297 yX9_move cX9_move 4 none 1 := ⟨⟨Or.inl gw_1220, gw_93, gw_1223, ⟨by decide, by decide, by decide⟩, by decide⟩, gw_1222, gw_50⟩
theorem lk_X9_300 : jv_LV RX9 300 yX9_nextInLoop cX9_nextInLoop 2 (some .int) 0 := ⟨⟨Or.inl gw_992, gw_93, gw_995, ⟨by decide, by decide, by decide⟩, by decide⟩, gw_994, gw_27⟩
theorem lk_X9_303 : jv_LV RX9 303 yX9_binFor cX9_binFor 6 (some .int) 1 := ⟨⟨Or.inl gw_996, gw_93, gw_999, ⟨by decide, by decide, by decide⟩, by decide⟩, gw_997, gw_998⟩
theorem lk_X9_306 : jv_LV RX9 306 yX9_outcomeOf cX9_outcomeOf 5 (some .int) 2 := ⟨⟨Or.inl gw_1014, gw_93, gw_1017, ⟨by decide, by decide, by decide⟩, by decide⟩, gw_1016, gw_30⟩
theorem lk_X9_312 : jv_LV RX9 312 yX9_hasBin cX9_hasBin 3 (some .boolean) 1 := ⟨⟨Or.inl gw_1042, gw_93, gw_1045, ⟨by decide, by decide, by decide⟩, by decide⟩, gw_1044, gw_35⟩
theorem lk_X9_318 : jv_LV RX9 318 yX6_removeAt cX6_removeAt 4 (some .int) 1 := ⟨⟨Or.inr ⟨_, gn_1224⟩, gw_97, gw_1227, ⟨by decide, by decide, by decide⟩, by decide⟩, gw_1226, gw_51⟩
theorem lk_X9_321 : jv_LV RX9 321 yX6_increase cX6_increase 3 none 2 := ⟨⟨Or.inr ⟨_, gn_1229⟩, gw_97, gw_1232, ⟨by decide, by decide, by decide⟩, by decide⟩, gw_1231, gw_52⟩
theorem lk_X9_324 : jv_LV RX9 324 yX7_addRecord cX7_addRecord 2 none 1 := ⟨⟨Or.inr ⟨_, gn_1233⟩, gw_99, gw_1236, ⟨by decide, by decide, by decide⟩, by decide⟩, gw_1235, gw_53⟩
theorem lk_X9_342 : jv_LV RX9 342 yX1_pop cX1_pop 2 (some .boolean) 1 := ⟨⟨Or.inr ⟨_, gn_1265⟩, gw_117, gw_1268, ⟨by decide, by decide, by decide⟩, by decide⟩, gw_1267, gw_54⟩
theorem lk_X9_348 : jv_LV RX9 348 yX7_copyFrom cX7_copyFrom 2 none 1 := ⟨⟨Or.inr ⟨_, gn_1273⟩, gw_99, gw_1197, ⟨by decide, by decide, by decide⟩, by decide⟩, gw_1196, gw_48⟩
theorem nd_X0 (ω : Wd) : ∀ j, j < 7 → defaultValue (tyX0 j) = vp_V (([.null, .null, .null, .null, .int 0, .int 0, .int 0] : List Value).map (sh ω)) j := by
  intro j hj
  rcases (show j = 0 ∨ j = 1 ∨ j = 2 ∨ j = 3 ∨ j = 4 ∨ j = 5 ∨ j = 6 by omega) with rfl | rfl | rfl | rfl | rfl | rfl | rfl <;> rfl
theorem nd_X1 (ω : Wd) : ∀ j, j < 3 → defaultValue (tyX1 j) = vp_V (([.null, .int 0, .int 0] : List Value).map (sh ω)) j := by
  intro j hj
  rcases (show j = 0 ∨ j = 1 ∨ j = 2 by omega) with rfl | rfl | rfl <;> rfl
theorem nd_X2 (ω : Wd) : ∀ j, j < 2 → defaultValue (tyX2 j) = vp_V (([.int 0, .int 0] : List Value).map (sh ω)) j := by
  intro j hj
  rcases (show j = 0 ∨ j = 1 by omega) with rfl | rfl <;> rfl
theorem nd_X3 (ω : Wd) : ∀ j, j < 5 → defaultValue (tyX3 j) = vp_V (([.null, .null, .null, .null, .null] : List Value).map (sh ω)) j := by
  intro j hj
  rcases (show j = 0 ∨ j = 1 ∨ j = 2 ∨ j = 3 ∨ j = 4 by omega) with rfl | rfl | rfl | rfl | rfl <;> rfl
theorem nd_X4 (ω : Wd) : ∀ j, j < 9 → defaultValue (tyX4 j) = vp_V (([.null, .int 0, .int 0, .int 0, .int 0, .int 0, .int 0, .int 0, .int 0] : List Value).map (sh ω)) j := by
  intro j hj
  rcases (show j = 0 ∨ j = 1 ∨ j = 2 ∨ j = 3 ∨ j = 4 ∨ j = 5 ∨ j = 6 ∨ j = 7 ∨ j = 8 by omega) with rfl | rfl | rfl | rfl | rfl | rfl | rfl | rfl | rfl <;> rfl
theorem nd_X5 (ω : Wd) : ∀ j, j < 5 → defaultValue (tyX5 j) = vp_V (([.null, .null, .null, .long 0, .null] : List Value).map (sh ω)) j := by
  intro j hj
  rcases (show j = 0 ∨ j = 1 ∨ j = 2 ∨ j = 3 ∨ j = 4 by omega) with rfl | rfl | rfl | rfl | rfl <;> rfl
theorem nd_X6 (ω : Wd) : ∀ j, j < 2 → defaultValue (tyX6 j) = vp_V (([.null, .int 0] : List Value).map (sh ω)) j := by
  intro j hj
  rcases (show j = 0 ∨ j = 1 by omega) with rfl | rfl <;> rfl
theorem nd_X7 (ω : Wd) : ∀ j, j < 15 → defaultValue (tyX7 j) = vp_V (([.int 0, .int 0, .int 0, .int 0, .int 0, .null, .null, .null, .null, .null, .null, .null, .null, .null, .null] : List Value).map (sh ω)) j := by
  intro j hj
  rcases (show j = 0 ∨ j = 1 ∨ j = 2 ∨ j = 3 ∨ j = 4 ∨ j = 5 ∨ j = 6 ∨ j = 7 ∨ j = 8 ∨ j = 9 ∨ j = 10 ∨ j = 11 ∨ j = 12 ∨ j = 13 ∨ j = 14 by omega) with rfl | rfl | rfl | rfl | rfl | rfl | rfl | rfl | rfl | rfl | rfl | rfl | rfl | rfl | rfl <;> rfl
theorem nd_X8 (ω : Wd) : ∀ j, j < 2 → defaultValue (tyX8 j) = vp_V (([.null, .null] : List Value).map (sh ω)) j := by
  intro j hj
  rcases (show j = 0 ∨ j = 1 by omega) with rfl | rfl <;> rfl
theorem ls_X10_129 : (RX10, 129, "type", 0) ∈ st_L := by decide +kernel
theorem ls_X10_139 : (RX10, 139, "fake", 1) ∈ st_L := by decide +kernel
theorem ls_X10_141 : (RX10, 141, "bin", 2) ∈ st_L := by decide +kernel
theorem ls_X10_143 : (RX10, 143, "gate", 3) ∈ st_L := by decide +kernel
theorem ls_X10_149 : (RX10, 149, "loop", 4) ∈ st_L := by decide +kernel
theorem ls_X10_151 : (RX10, 151, "margin", 5) ∈ st_L := by decide +kernel
theorem ls_X4_41 : (RX4, 41, "type", 0) ∈ st_L := by decide +kernel
theorem ls_X4_57 : (RX4, 57, "fake", 1) ∈ st_L := by decide +kernel
theorem ls_X4_62 : (RX4, 62, "bin", 2) ∈ st_L := by decide +kernel
theorem ls_X4_68 : (RX4, 68, "gate", 3) ∈ st_L := by decide +kernel
theorem ls_X4_80 : (RX4, 80, "loop", 4) ∈ st_L := by decide +kernel
theorem ls_X4_85 : (RX4, 85, "margin", 5) ∈ st_L := by decide +kernel
end
section
theorem dJ0_coder_7d493_0 : decode cJ0_coder_7d493 0 = .ok (.getstatic 38, 3) := by decide +kernel
theorem dJ0_coder_7d493_3 : decode cJ0_coder_7d493 3 = .ok (.ifCond .eq 10, 3) := by decide +kernel
theorem dJ0_coder_7d493_6 : decode cJ0_coder_7d493 6 = .ok (.aload_n 0, 1) := by decide +kernel
theorem dJ0_coder_7d493_7 : decode cJ0_coder_7d493 7 = .ok (.getfield 15, 3) := by decide +kernel
theorem dJ0_coder_7d493_10 : decode cJ0_coder_7d493 10 = .ok (.goto 4, 3) := by decide +kernel
theorem dJ0_coder_7d493_13 : decode cJ0_coder_7d493 13 = .ok (.iconst 1, 1) := by decide +kernel
theorem dJ0_coder_7d493_14 : decode cJ0_coder_7d493 14 = .ok (.ireturn, 1) := by decide +kernel
def fn_J0_coder_7d493 (N : Nat) (M : Mem) (s0 : UInt32) : Option (Int32 × Mem) :=
  if (1 : Int32) = 0 then
    some (1, M)
  else
    (st_ck s0).bind fun _ =>
    some (0, M)
set_option maxRecDepth 100000 in
set_option maxHeartbeats 4000000 in
theorem ct_J0_coder_7d493 {l : Launch} {ω : Wd} {k N : Nat} {M : Mem} {s0 : UInt32} {r : Int32} {M' : Mem} (h : fn_J0_coder_7d493 N M s0 = some (r, M')) : CM l ω k yJ0_coder_7d493 cJ0_coder_7d493 1 (some .byte) 0 0 0 [.float s0] M (some (.int r)) M' := by
  refine CM.ofF (by decide +kernel) (Nat.le_of_ble_eq_true rfl) fun Γ hl C hr hi => ?_
  subst hl
  unfold fn_J0_coder_7d493 at h
  refine jv_gsZ C gw_443 dJ0_coder_7d493_0 ?_
  refine jv_if_eq (tgt := 13) C dJ0_coder_7d493_3 (by decide) h (fun h => ?_) (fun h => ?_)
  · refine jv_iconst (v := 1) C dJ0_coder_7d493_13 (by decide) ?_
    exact jv_nret C hr rfl dJ0_coder_7d493_14 h
  · refine jv_sload_n C dJ0_coder_7d493_6 rfl 0 rfl ?_
    refine jv_gSc C gw_581 dJ0_coder_7d493_7 h (fun _ h => ?_)
    refine jv_goto (tgt := 14) C dJ0_coder_7d493_10 (by decide) ?_
    exact jv_nret C hr rfl dJ0_coder_7d493_14 h
theorem dJ0_length_8abf5_0 : decode cJ0_length_8abf5 0 = .ok (.aload_n 0, 1) := by decide +kernel
theorem dJ0_length_8abf5_1 : decode cJ0_length_8abf5 1 = .ok (.getfield 9, 3) := by decide +kernel
theorem dJ0_length_8abf5_4 : decode cJ0_length_8abf5 4 = .ok (.arraylength, 1) := by decide +kernel
theorem dJ0_length_8abf5_5 : decode cJ0_length_8abf5 5 = .ok (.aload_n 0, 1) := by decide +kernel
theorem dJ0_length_8abf5_6 : decode cJ0_length_8abf5 6 = .ok (.invokevirtual 335, 3) := by decide +kernel
theorem dJ0_length_8abf5_9 : decode cJ0_length_8abf5 9 = .ok (.ishr, 1) := by decide +kernel
theorem dJ0_length_8abf5_10 : decode cJ0_length_8abf5 10 = .ok (.ireturn, 1) := by decide +kernel
def fn_J0_length_8abf5 (N : Nat) (M : Mem) (s0 : UInt32) : Option (Int32 × Mem) :=
  (st_val s0).bind fun s1 =>
  (st_ln s1).bind fun v2 =>
  (st_ck s0).bind fun _ => mm_b2 (fn_J0_coder_7d493 N M s0) fun v4 M3 =>
  some ((v2 >>> (v4 &&& 31)), M3)
set_option maxRecDepth 100000 in
set_option maxHeartbeats 4000000 in
theorem ct_J0_length_8abf5 {l : Launch} {ω : Wd} {k N : Nat} {M : Mem} {s0 : UInt32} {r : Int32} {M' : Mem} (h : fn_J0_length_8abf5 N M s0 = some (r, M')) : CM l ω k yJ0_length_8abf5 cJ0_length_8abf5 1 (some .int) 1 0 0 [.float s0] M (some (.int r)) M' := by
  refine CM.ofF (by decide +kernel) (Nat.le_of_ble_eq_true rfl) fun Γ hl C hr hi => ?_
  subst hl
  unfold fn_J0_length_8abf5 at h
  refine jv_sload_n C dJ0_length_8abf5_0 rfl 0 rfl ?_
  refine jv_gSv C gw_580 dJ0_length_8abf5_1 h (fun s1 h => ?_)
  refine jv_tlen C dJ0_length_8abf5_4 h (fun v2 h => ?_)
  refine jv_sload_n C dJ0_length_8abf5_5 rfl 0 rfl ?_
  refine jv_wI0 (As := []) C lk_J0_335 rfl dJ0_length_8abf5_6 rfl rfl (by decide) (by decide) (by decide) (Nat.le_of_ble_eq_true rfl) h (fun _ _ h => ct_J0_coder_7d493 h) (fun v4 M3 h => ?_)
  refine jv_ishr C dJ0_length_8abf5_9 ?_
  exact jv_iret C hr dJ0_length_8abf5_10 h
theorem dJ0_isLatin1_aae02_0 : decode cJ0_isLatin1_aae02 0 = .ok (.getstatic 38, 3) := by decide +kernel
theorem dJ0_isLatin1_aae02_3 : decode cJ0_isLatin1_aae02 3 = .ok (.ifCond .eq 14, 3) := by decide +kernel
theorem dJ0_isLatin1_aae02_6 : decode cJ0_isLatin1_aae02 6 = .ok (.aload_n 0, 1) := by decide +kernel
theorem dJ0_isLatin1_aae02_7 : decode cJ0_isLatin1_aae02 7 = .ok (.getfield 15, 3) := by decide +kernel
theorem dJ0_isLatin1_aae02_10 : decode cJ0_isLatin1_aae02 10 = .ok (.ifCond .ne 7, 3) := by decide +kernel
theorem dJ0_isLatin1_aae02_13 : decode cJ0_isLatin1_aae02 13 = .ok (.iconst 1, 1) := by decide +kernel
theorem dJ0_isLatin1_aae02_14 : decode cJ0_isLatin1_aae02 14 = .ok (.goto 4, 3) := by decide +kernel
theorem dJ0_isLatin1_aae02_17 : decode cJ0_isLatin1_aae02 17 = .ok (.iconst 0, 1) := by decide +kernel
theorem dJ0_isLatin1_aae02_18 : decode cJ0_isLatin1_aae02 18 = .ok (.ireturn, 1) := by decide +kernel
def fn_J0_isLatin1_aae02 (N : Nat) (M : Mem) (s0 : UInt32) : Option (Int32 × Mem) :=
  if (1 : Int32) = 0 then
    some (0, M)
  else
    (st_ck s0).bind fun _ =>
    if (0 : Int32) = 0 then
      some (1, M)
    else
      some (0, M)
set_option maxRecDepth 100000 in
set_option maxHeartbeats 4000000 in
theorem ct_J0_isLatin1_aae02 {l : Launch} {ω : Wd} {k N : Nat} {M : Mem} {s0 : UInt32} {r : Int32} {M' : Mem} (h : fn_J0_isLatin1_aae02 N M s0 = some (r, M')) : CM l ω k yJ0_isLatin1_aae02 cJ0_isLatin1_aae02 1 (some .boolean) 0 0 0 [.float s0] M (some (.int r)) M' := by
  refine CM.ofF (by decide +kernel) (Nat.le_of_ble_eq_true rfl) fun Γ hl C hr hi => ?_
  subst hl
  unfold fn_J0_isLatin1_aae02 at h
  refine jv_gsZ C gw_443 dJ0_isLatin1_aae02_0 ?_
  refine jv_if_eq (tgt := 17) C dJ0_isLatin1_aae02_3 (by decide) h (fun h => ?_) (fun h => ?_)
  · refine jv_iconst (v := 0) C dJ0_isLatin1_aae02_17 (by decide) ?_
    exact jv_zretc C hr (Or.inl rfl) dJ0_isLatin1_aae02_18 h
  · refine jv_sload_n C dJ0_isLatin1_aae02_6 rfl 0 rfl ?_
    refine jv_gSc C gw_581 dJ0_isLatin1_aae02_7 h (fun _ h => ?_)
    refine jv_if_ne (tgt := 17) C dJ0_isLatin1_aae02_10 (by decide) h (fun h => ?_) (fun h => ?_)
    · refine jv_iconst (v := 0) C dJ0_isLatin1_aae02_17 (by decide) ?_
      exact jv_zretc C hr (Or.inl rfl) dJ0_isLatin1_aae02_18 h
    · refine jv_iconst (v := 1) C dJ0_isLatin1_aae02_13 (by decide) ?_
      refine jv_goto (tgt := 18) C dJ0_isLatin1_aae02_14 (by decide) ?_
      exact jv_zretc C hr (Or.inr rfl) dJ0_isLatin1_aae02_18 h
theorem dJ3_checkIndex_8e157_0 : decode cJ3_checkIndex_8e157 0 = .ok (.iload_n 0, 1) := by decide +kernel
theorem dJ3_checkIndex_8e157_1 : decode cJ3_checkIndex_8e157 1 = .ok (.ifCond .lt 8, 3) := by decide +kernel
theorem dJ3_checkIndex_8e157_4 : decode cJ3_checkIndex_8e157 4 = .ok (.iload_n 0, 1) := by decide +kernel
theorem dJ3_checkIndex_8e157_5 : decode cJ3_checkIndex_8e157 5 = .ok (.iload_n 1, 1) := by decide +kernel
theorem dJ3_checkIndex_8e157_6 : decode cJ3_checkIndex_8e157 6 = .ok (.if_icmp .lt 10, 3) := by decide +kernel
theorem dJ3_checkIndex_8e157_9 : decode cJ3_checkIndex_8e157 9 = .ok (.aload_n 2, 1) := by decide +kernel
theorem dJ3_checkIndex_8e157_10 : decode cJ3_checkIndex_8e157 10 = .ok (.iload_n 0, 1) := by decide +kernel
theorem dJ3_checkIndex_8e157_11 : decode cJ3_checkIndex_8e157 11 = .ok (.iload_n 1, 1) := by decide +kernel
theorem dJ3_checkIndex_8e157_12 : decode cJ3_checkIndex_8e157 12 = .ok (.invokestatic 95, 3) := by decide +kernel
theorem dJ3_checkIndex_8e157_15 : decode cJ3_checkIndex_8e157 15 = .ok (.athrow, 1) := by decide +kernel
theorem dJ3_checkIndex_8e157_16 : decode cJ3_checkIndex_8e157 16 = .ok (.iload_n 0, 1) := by decide +kernel
theorem dJ3_checkIndex_8e157_17 : decode cJ3_checkIndex_8e157 17 = .ok (.ireturn, 1) := by decide +kernel
def fn_J3_checkIndex_8e157 (N : Nat) (M : Mem) (x0 : Int32) (x1 : Int32) (s2 : UInt32) : Option (Int32 × Mem) :=
  if x0 < 0 then
    none
  else
    if x0 < x1 then
      some (x0, M)
    else
      none
set_option maxRecDepth 100000 in
set_option maxHeartbeats 4000000 in
theorem ct_J3_checkIndex_8e157 {l : Launch} {ω : Wd} {k N : Nat} {M : Mem} {x0 : Int32} {x1 : Int32} {s2 : UInt32} {r : Int32} {M' : Mem} (h : fn_J3_checkIndex_8e157 N M x0 x1 s2 = some (r, M')) : CM l ω k yJ3_checkIndex_8e157 cJ3_checkIndex_8e157 3 (some .int) 0 0 0 [.int x0, .int x1, .float s2] M (some (.int r)) M' := by
  refine CM.ofF (by decide +kernel) (Nat.le_of_ble_eq_true rfl) fun Γ hl C hr hi => ?_
  subst hl
  unfold fn_J3_checkIndex_8e157 at h
  refine jv_iload_n C dJ3_checkIndex_8e157_0 rfl 0 rfl ?_
  refine jv_if_lt (tgt := 9) C dJ3_checkIndex_8e157_1 (by decide) h (fun h => ?_) (fun h => ?_)
  · refine jv_sload_n C dJ3_checkIndex_8e157_9 rfl 2 rfl ?_
    refine jv_iload_n C dJ3_checkIndex_8e157_10 rfl 0 rfl ?_
    refine jv_iload_n C dJ3_checkIndex_8e157_11 rfl 1 rfl ?_
    exact jv_no h
  · refine jv_iload_n C dJ3_checkIndex_8e157_4 rfl 0 rfl ?_
    refine jv_iload_n C dJ3_checkIndex_8e157_5 rfl 1 rfl ?_
    refine jv_icmp_lt (tgt := 16) C dJ3_checkIndex_8e157_6 (by decide) h (fun h => ?_) (fun h => ?_)
    · refine jv_iload_n C dJ3_checkIndex_8e157_16 rfl 0 rfl ?_
      exact jv_iret C hr dJ3_checkIndex_8e157_17 h
    · refine jv_sload_n C dJ3_checkIndex_8e157_9 rfl 2 rfl ?_
      refine jv_iload_n C dJ3_checkIndex_8e157_10 rfl 0 rfl ?_
      refine jv_iload_n C dJ3_checkIndex_8e157_11 rfl 1 rfl ?_
      exact jv_no h
theorem dJ0_checkIndex_df160_0 : decode cJ0_checkIndex_df160 0 = .ok (.iload_n 0, 1) := by decide +kernel
theorem dJ0_checkIndex_df160_1 : decode cJ0_checkIndex_df160 1 = .ok (.iload_n 1, 1) := by decide +kernel
theorem dJ0_checkIndex_df160_2 : decode cJ0_checkIndex_df160 2 = .ok (.getstatic 1053, 3) := by decide +kernel
theorem dJ0_checkIndex_df160_5 : decode cJ0_checkIndex_df160 5 = .ok (.invokestatic 1059, 3) := by decide +kernel
theorem dJ0_checkIndex_df160_8 : decode cJ0_checkIndex_df160 8 = .ok (.pop, 1) := by decide +kernel
theorem dJ0_checkIndex_df160_9 : decode cJ0_checkIndex_df160 9 = .ok (.return_, 1) := by decide +kernel
def fn_J0_checkIndex_df160 (N : Nat) (M : Mem) (x0 : Int32) (x1 : Int32) : Option (Unit × Mem) :=
  mm_b2 (fn_J3_checkIndex_8e157 N M x0 x1 200) fun v2 M1 =>
  some ((), M1)
set_option maxRecDepth 100000 in
set_option maxHeartbeats 4000000 in
theorem ct_J0_checkIndex_df160 {l : Launch} {ω : Wd} {k N : Nat} {M : Mem} {x0 : Int32} {x1 : Int32} {r : Unit} {M' : Mem} (h : fn_J0_checkIndex_df160 N M x0 x1 = some (r, M')) : CM l ω k yJ0_checkIndex_df160 cJ0_checkIndex_df160 2 none 1 0 0 [.int x0, .int x1] M none M' := by
  refine CM.ofF (by decide +kernel) (Nat.le_of_ble_eq_true rfl) fun Γ hl C hr hi => ?_
  subst hl
  unfold fn_J0_checkIndex_df160 at h
  refine jv_iload_n C dJ0_checkIndex_df160_0 rfl 0 rfl ?_
  refine jv_iload_n C dJ0_checkIndex_df160_1 rfl 1 rfl ?_
  refine jv_gsF C gw_421 dJ0_checkIndex_df160_2 ?_
  refine jv_sI0 (As := [.int x0, .int x1, .float 200]) C lk_J0_1059 dJ0_checkIndex_df160_5 rfl rfl (by decide) (by decide) (by decide) (Nat.le_of_ble_eq_true rfl) h (fun _ _ h => ct_J3_checkIndex_8e157 h) (fun v2 M1 h => ?_)
  refine jv_pop C dJ0_checkIndex_df160_8 rfl ?_
  exact jv_vret C hr dJ0_checkIndex_df160_9 h
theorem dJ1_charAt_3b067_0 : decode cJ1_charAt_3b067 0 = .ok (.iload_n 1, 1) := by decide +kernel
theorem dJ1_charAt_3b067_1 : decode cJ1_charAt_3b067 1 = .ok (.aload_n 0, 1) := by decide +kernel
theorem dJ1_charAt_3b067_2 : decode cJ1_charAt_3b067 2 = .ok (.arraylength, 1) := by decide +kernel
theorem dJ1_charAt_3b067_3 : decode cJ1_charAt_3b067 3 = .ok (.invokestatic 9, 3) := by decide +kernel
theorem dJ1_charAt_3b067_6 : decode cJ1_charAt_3b067 6 = .ok (.aload_n 0, 1) := by decide +kernel
theorem dJ1_charAt_3b067_7 : decode cJ1_charAt_3b067 7 = .ok (.iload_n 1, 1) := by decide +kernel
theorem dJ1_charAt_3b067_8 : decode cJ1_charAt_3b067 8 = .ok (.baload, 1) := by decide +kernel
theorem dJ1_charAt_3b067_9 : decode cJ1_charAt_3b067 9 = .ok (.sipush 255, 3) := by decide +kernel
theorem dJ1_charAt_3b067_12 : decode cJ1_charAt_3b067 12 = .ok (.iand, 1) := by decide +kernel
theorem dJ1_charAt_3b067_13 : decode cJ1_charAt_3b067 13 = .ok (.i2c, 1) := by decide +kernel
theorem dJ1_charAt_3b067_14 : decode cJ1_charAt_3b067 14 = .ok (.ireturn, 1) := by decide +kernel
def fn_J1_charAt_3b067 (N : Nat) (M : Mem) (s0 : UInt32) (x1 : Int32) : Option (Int32 × Mem) :=
  (st_ln s0).bind fun v1 =>
  mm_b2 (fn_J0_checkIndex_df160 N M x1 v1) fun _ M2 =>
  (st_by s0 x1).bind fun v3 =>
  some ((UInt32.toInt32 (Int32.toUInt32 (v3 &&& 255) % 65536)), M2)
set_option maxRecDepth 100000 in
set_option maxHeartbeats 4000000 in
theorem ct_J1_charAt_3b067 {l : Launch} {ω : Wd} {k N : Nat} {M : Mem} {s0 : UInt32} {x1 : Int32} {r : Int32} {M' : Mem} (h : fn_J1_charAt_3b067 N M s0 x1 = some (r, M')) : CM l ω k yJ1_charAt_3b067 cJ1_charAt_3b067 2 (some .char) 2 0 0 [.float s0, .int x1] M (some (.int r)) M' := by
  refine CM.ofF (by decide +kernel) (Nat.le_of_ble_eq_true rfl) fun Γ hl C hr hi => ?_
  subst hl
  unfold fn_J1_charAt_3b067 at h
  refine jv_iload_n C dJ1_charAt_3b067_0 rfl 1 rfl ?_
  refine jv_sload_n C dJ1_charAt_3b067_1 rfl 0 rfl ?_
  refine jv_tlen C dJ1_charAt_3b067_2 h (fun v1 h => ?_)
  refine jv_sV0 (As := [.int x1, .int v1]) C lk_J1_9 dJ1_charAt_3b067_3 rfl rfl (by decide) (by decide) (by decide) (Nat.le_of_ble_eq_true rfl) h (fun _ _ h => ct_J0_checkIndex_df160 h) (fun _ M2 h => ?_)
  refine jv_sload_n C dJ1_charAt_3b067_6 rfl 0 rfl ?_
  refine jv_iload_n C dJ1_charAt_3b067_7 rfl 1 rfl ?_
  refine jv_tald C dJ1_charAt_3b067_8 h (fun v3 h => ?_)
  refine jv_sipush (v := 255) C dJ1_charAt_3b067_9 (by decide) ?_
  refine jv_iand C dJ1_charAt_3b067_12 ?_
  refine jv_i2c C dJ1_charAt_3b067_13 ?_
  exact jv_nret C hr (pk_nc _) dJ1_charAt_3b067_14 h
theorem dJ0_charAt_5068e_0 : decode cJ0_charAt_5068e 0 = .ok (.aload_n 0, 1) := by decide +kernel
theorem dJ0_charAt_5068e_1 : decode cJ0_charAt_5068e 1 = .ok (.invokevirtual 492, 3) := by decide +kernel
theorem dJ0_charAt_5068e_4 : decode cJ0_charAt_5068e 4 = .ok (.ifCond .eq 12, 3) := by decide +kernel
theorem dJ0_charAt_5068e_7 : decode cJ0_charAt_5068e 7 = .ok (.aload_n 0, 1) := by decide +kernel
theorem dJ0_charAt_5068e_8 : decode cJ0_charAt_5068e 8 = .ok (.getfield 9, 3) := by decide +kernel
theorem dJ0_charAt_5068e_11 : decode cJ0_charAt_5068e 11 = .ok (.iload_n 1, 1) := by decide +kernel
theorem dJ0_charAt_5068e_12 : decode cJ0_charAt_5068e 12 = .ok (.invokestatic 495, 3) := by decide +kernel
theorem dJ0_charAt_5068e_15 : decode cJ0_charAt_5068e 15 = .ok (.ireturn, 1) := by decide +kernel
theorem dJ0_charAt_5068e_16 : decode cJ0_charAt_5068e 16 = .ok (.aload_n 0, 1) := by decide +kernel
theorem dJ0_charAt_5068e_17 : decode cJ0_charAt_5068e 17 = .ok (.getfield 9, 3) := by decide +kernel
theorem dJ0_charAt_5068e_20 : decode cJ0_charAt_5068e 20 = .ok (.iload_n 1, 1) := by decide +kernel
theorem dJ0_charAt_5068e_21 : decode cJ0_charAt_5068e 21 = .ok (.invokestatic 498, 3) := by decide +kernel
theorem dJ0_charAt_5068e_24 : decode cJ0_charAt_5068e 24 = .ok (.ireturn, 1) := by decide +kernel
def fn_J0_charAt_5068e (N : Nat) (M : Mem) (s0 : UInt32) (x1 : Int32) : Option (Int32 × Mem) :=
  (st_ck s0).bind fun _ => mm_b2 (fn_J0_isLatin1_aae02 N M s0) fun v2 M1 =>
  if v2 = 0 then
    (st_val s0).bind fun s3 =>
    none
  else
    (st_val s0).bind fun s4 =>
    mm_b2 (fn_J1_charAt_3b067 N M1 s4 x1) fun v6 M5 =>
    if 0 ≤ v6 ∧ v6 < 65536 then some (v6, M5) else none
set_option maxRecDepth 100000 in
set_option maxHeartbeats 4000000 in
theorem ct_J0_charAt_5068e {l : Launch} {ω : Wd} {k N : Nat} {M : Mem} {s0 : UInt32} {x1 : Int32} {r : Int32} {M' : Mem} (h : fn_J0_charAt_5068e N M s0 x1 = some (r, M')) : CM l ω k yJ0_charAt_5068e cJ0_charAt_5068e 2 (some .char) 3 0 0 [.float s0, .int x1] M (some (.int r)) M' := by
  refine CM.ofF (by decide +kernel) (Nat.le_of_ble_eq_true rfl) fun Γ hl C hr hi => ?_
  subst hl
  unfold fn_J0_charAt_5068e at h
  refine jv_sload_n C dJ0_charAt_5068e_0 rfl 0 rfl ?_
  refine jv_wI0 (As := []) C lk_J0_492 rfl dJ0_charAt_5068e_1 rfl rfl (by decide) (by decide) (by decide) (Nat.le_of_ble_eq_true rfl) h (fun _ _ h => ct_J0_isLatin1_aae02 h) (fun v2 M1 h => ?_)
  refine jv_if_eq (tgt := 16) C dJ0_charAt_5068e_4 (by decide) h (fun h => ?_) (fun h => ?_)
  · refine jv_sload_n C dJ0_charAt_5068e_16 rfl 0 rfl ?_
    refine jv_gSv C gw_580 dJ0_charAt_5068e_17 h (fun s3 h => ?_)
    refine jv_iload_n C dJ0_charAt_5068e_20 rfl 1 rfl ?_
    exact jv_no h
  · refine jv_sload_n C dJ0_charAt_5068e_7 rfl 0 rfl ?_
    refine jv_gSv C gw_580 dJ0_charAt_5068e_8 h (fun s4 h => ?_)
    refine jv_iload_n C dJ0_charAt_5068e_11 rfl 1 rfl ?_
    refine jv_sI0 (As := [.float s4, .int x1]) C lk_J0_495 dJ0_charAt_5068e_12 rfl rfl (by decide) (by decide) (by decide) (Nat.le_of_ble_eq_true rfl) h (fun _ _ h => ct_J1_charAt_3b067 h) (fun v6 M5 h => ?_)
    exact jv_cret C hr dJ0_charAt_5068e_15 h
theorem dJ7_rangeCheck_23922_0 : decode cJ7_rangeCheck_23922 0 = .ok (.iload_n 1, 1) := by decide +kernel
theorem dJ7_rangeCheck_23922_1 : decode cJ7_rangeCheck_23922 1 = .ok (.iload_n 2, 1) := by decide +kernel
theorem dJ7_rangeCheck_23922_2 : decode cJ7_rangeCheck_23922 2 = .ok (.if_icmp .le 44, 3) := by decide +kernel
theorem dJ7_rangeCheck_23922_5 : decode cJ7_rangeCheck_23922 5 = .ok (.new 43, 3) := by decide +kernel
theorem dJ7_rangeCheck_23922_8 : decode cJ7_rangeCheck_23922 8 = .ok (.dup, 1) := by decide +kernel
theorem dJ7_rangeCheck_23922_9 : decode cJ7_rangeCheck_23922 9 = .ok (.new 45, 3) := by decide +kernel
theorem dJ7_rangeCheck_23922_12 : decode cJ7_rangeCheck_23922 12 = .ok (.dup, 1) := by decide +kernel
theorem dJ7_rangeCheck_23922_13 : decode cJ7_rangeCheck_23922 13 = .ok (.invokespecial 47, 3) := by decide +kernel
theorem dJ7_rangeCheck_23922_16 : decode cJ7_rangeCheck_23922 16 = .ok (.ldc 48, 2) := by decide +kernel
theorem dJ7_rangeCheck_23922_18 : decode cJ7_rangeCheck_23922 18 = .ok (.invokevirtual 50, 3) := by decide +kernel
theorem dJ7_rangeCheck_23922_21 : decode cJ7_rangeCheck_23922 21 = .ok (.iload_n 1, 1) := by decide +kernel
theorem dJ7_rangeCheck_23922_22 : decode cJ7_rangeCheck_23922 22 = .ok (.invokevirtual 54, 3) := by decide +kernel
theorem dJ7_rangeCheck_23922_25 : decode cJ7_rangeCheck_23922 25 = .ok (.ldc 57, 2) := by decide +kernel
theorem dJ7_rangeCheck_23922_27 : decode cJ7_rangeCheck_23922 27 = .ok (.invokevirtual 50, 3) := by decide +kernel
theorem dJ7_rangeCheck_23922_30 : decode cJ7_rangeCheck_23922 30 = .ok (.iload_n 2, 1) := by decide +kernel
theorem dJ7_rangeCheck_23922_31 : decode cJ7_rangeCheck_23922 31 = .ok (.invokevirtual 54, 3) := by decide +kernel
theorem dJ7_rangeCheck_23922_34 : decode cJ7_rangeCheck_23922 34 = .ok (.ldc 59, 2) := by decide +kernel
theorem dJ7_rangeCheck_23922_36 : decode cJ7_rangeCheck_23922 36 = .ok (.invokevirtual 50, 3) := by decide +kernel
theorem dJ7_rangeCheck_23922_39 : decode cJ7_rangeCheck_23922 39 = .ok (.invokevirtual 61, 3) := by decide +kernel
theorem dJ7_rangeCheck_23922_42 : decode cJ7_rangeCheck_23922 42 = .ok (.invokespecial 65, 3) := by decide +kernel
theorem dJ7_rangeCheck_23922_45 : decode cJ7_rangeCheck_23922 45 = .ok (.athrow, 1) := by decide +kernel
theorem dJ7_rangeCheck_23922_46 : decode cJ7_rangeCheck_23922 46 = .ok (.iload_n 1, 1) := by decide +kernel
theorem dJ7_rangeCheck_23922_47 : decode cJ7_rangeCheck_23922 47 = .ok (.ifCond .ge 12, 3) := by decide +kernel
theorem dJ7_rangeCheck_23922_50 : decode cJ7_rangeCheck_23922 50 = .ok (.new 68, 3) := by decide +kernel
theorem dJ7_rangeCheck_23922_53 : decode cJ7_rangeCheck_23922 53 = .ok (.dup, 1) := by decide +kernel
theorem dJ7_rangeCheck_23922_54 : decode cJ7_rangeCheck_23922 54 = .ok (.iload_n 1, 1) := by decide +kernel
theorem dJ7_rangeCheck_23922_55 : decode cJ7_rangeCheck_23922 55 = .ok (.invokespecial 70, 3) := by decide +kernel
theorem dJ7_rangeCheck_23922_58 : decode cJ7_rangeCheck_23922 58 = .ok (.athrow, 1) := by decide +kernel
theorem dJ7_rangeCheck_23922_59 : decode cJ7_rangeCheck_23922 59 = .ok (.iload_n 2, 1) := by decide +kernel
theorem dJ7_rangeCheck_23922_60 : decode cJ7_rangeCheck_23922 60 = .ok (.iload_n 0, 1) := by decide +kernel
theorem dJ7_rangeCheck_23922_61 : decode cJ7_rangeCheck_23922 61 = .ok (.if_icmp .le 12, 3) := by decide +kernel
theorem dJ7_rangeCheck_23922_64 : decode cJ7_rangeCheck_23922 64 = .ok (.new 68, 3) := by decide +kernel
theorem dJ7_rangeCheck_23922_67 : decode cJ7_rangeCheck_23922 67 = .ok (.dup, 1) := by decide +kernel
theorem dJ7_rangeCheck_23922_68 : decode cJ7_rangeCheck_23922 68 = .ok (.iload_n 2, 1) := by decide +kernel
theorem dJ7_rangeCheck_23922_69 : decode cJ7_rangeCheck_23922 69 = .ok (.invokespecial 70, 3) := by decide +kernel
theorem dJ7_rangeCheck_23922_72 : decode cJ7_rangeCheck_23922 72 = .ok (.athrow, 1) := by decide +kernel
theorem dJ7_rangeCheck_23922_73 : decode cJ7_rangeCheck_23922 73 = .ok (.return_, 1) := by decide +kernel
def fn_J7_rangeCheck_23922 (N : Nat) (M : Mem) (x0 : Int32) (x1 : Int32) (x2 : Int32) : Option (Unit × Mem) :=
  if x1 ≤ x2 then
    if 0 ≤ x1 then
      if x2 ≤ x0 then
        some ((), M)
      else
        none
    else
      none
  else
    none
set_option maxRecDepth 100000 in
set_option maxHeartbeats 4000000 in
theorem ct_J7_rangeCheck_23922 {l : Launch} {ω : Wd} {k N : Nat} {M : Mem} {x0 : Int32} {x1 : Int32} {x2 : Int32} {r : Unit} {M' : Mem} (h : fn_J7_rangeCheck_23922 N M x0 x1 x2 = some (r, M')) : CM l ω k yJ7_rangeCheck_23922 cJ7_rangeCheck_23922 3 none 1 0 0 [.int x0, .int x1, .int x2] M none M' := by
  refine CM.ofF (by decide +kernel) (Nat.le_of_ble_eq_true rfl) fun Γ hl C hr hi => ?_
  subst hl
  unfold fn_J7_rangeCheck_23922 at h
  refine jv_iload_n C dJ7_rangeCheck_23922_0 rfl 1 rfl ?_
  refine jv_iload_n C dJ7_rangeCheck_23922_1 rfl 2 rfl ?_
  refine jv_icmp_le (tgt := 46) C dJ7_rangeCheck_23922_2 (by decide) h (fun h => ?_) (fun h => ?_)
  · refine jv_iload_n C dJ7_rangeCheck_23922_46 rfl 1 rfl ?_
    refine jv_if_ge (tgt := 59) C dJ7_rangeCheck_23922_47 (by decide) h (fun h => ?_) (fun h => ?_)
    · refine jv_iload_n C dJ7_rangeCheck_23922_59 rfl 2 rfl ?_
      refine jv_iload_n C dJ7_rangeCheck_23922_60 rfl 0 rfl ?_
      refine jv_icmp_le (tgt := 73) C dJ7_rangeCheck_23922_61 (by decide) h (fun h => ?_) (fun h => ?_)
      · exact jv_vret C hr dJ7_rangeCheck_23922_73 h
      · exact jv_no h
    · exact jv_no h
  · exact jv_no h
theorem dJ7_fill_fda19_0 : decode cJ7_fill_fda19 0 = .ok (.aload_n 0, 1) := by decide +kernel
theorem dJ7_fill_fda19_1 : decode cJ7_fill_fda19 1 = .ok (.arraylength, 1) := by decide +kernel
theorem dJ7_fill_fda19_2 : decode cJ7_fill_fda19 2 = .ok (.iload_n 1, 1) := by decide +kernel
theorem dJ7_fill_fda19_3 : decode cJ7_fill_fda19 3 = .ok (.iload_n 2, 1) := by decide +kernel
theorem dJ7_fill_fda19_4 : decode cJ7_fill_fda19 4 = .ok (.invokestatic 13, 3) := by decide +kernel
theorem dJ7_fill_fda19_7 : decode cJ7_fill_fda19 7 = .ok (.iload_n 1, 1) := by decide +kernel
theorem dJ7_fill_fda19_8 : decode cJ7_fill_fda19 8 = .ok (.istore 4, 2) := by decide +kernel
theorem dJ7_fill_fda19_10 : decode cJ7_fill_fda19 10 = .ok (.iload 4, 2) := by decide +kernel
theorem dJ7_fill_fda19_12 : decode cJ7_fill_fda19 12 = .ok (.iload_n 2, 1) := by decide +kernel
theorem dJ7_fill_fda19_13 : decode cJ7_fill_fda19 13 = .ok (.if_icmp .ge 14, 3) := by decide +kernel
theorem dJ7_fill_fda19_16 : decode cJ7_fill_fda19 16 = .ok (.aload_n 0, 1) := by decide +kernel
theorem dJ7_fill_fda19_17 : decode cJ7_fill_fda19 17 = .ok (.iload 4, 2) := by decide +kernel
theorem dJ7_fill_fda19_19 : decode cJ7_fill_fda19 19 = .ok (.iload_n 3, 1) := by decide +kernel
theorem dJ7_fill_fda19_20 : decode cJ7_fill_fda19 20 = .ok (.iastore, 1) := by decide +kernel
theorem dJ7_fill_fda19_21 : decode cJ7_fill_fda19 21 = .ok (.iinc 4 1, 3) := by decide +kernel
theorem dJ7_fill_fda19_24 : decode cJ7_fill_fda19 24 = .ok (.goto (-14), 3) := by decide +kernel
theorem dJ7_fill_fda19_27 : decode cJ7_fill_fda19 27 = .ok (.return_, 1) := by decide +kernel
def fn_J7_fill_fda19_10 (N : Nat) : Nat → Mem → Nat → Int32 → Int32 → Int32 → Option (Unit × Mem)
  | 0, _, _, _, _, _ => none
  | n + 1, M, a0, x2, x3, x4 =>
    if x2 ≤ x4 then
      some ((), M)
    else
      (mm_sI M a0 0 x4 x3).bind fun M1 =>
      fn_J7_fill_fda19_10 N n M1 a0 x2 x3 ((x4 + 1))
set_option maxRecDepth 100000 in
set_option maxHeartbeats 4000000 in
theorem bk_J7_fill_fda19_10 {Γ : Gm} {ω : Wd} {k N : Nat} {r : Unit} {M' : Mem} (C : Cx Γ cJ7_fill_fda19 5 RJ7 ω 2 0 0) (hr : Γ.meth.sig.returnType = none) : ∀ (n : Nat) (M : Mem) (a0 : Nat) (x2 : Int32) (x3 : Int32) (x4 : Int32), fn_J7_fill_fda19_10 N n M a0 x2 x3 x4 = some (r, M') → JJ Γ (QF Γ ω k 0 0 none M') 5 ω k M 0 0 10 [(0, .ref a0), (2, .int x2), (3, .int x3), (4, .int x4)] [] := by
  intro n
  induction n with
  | zero => intro M a0 x2 x3 x4 h; exact jv_no h
  | succ n ih =>
    intro M a0 x2 x3 x4 h
    rw [fn_J7_fill_fda19_10.eq_2] at h
    refine jv_iload C dJ7_fill_fda19_10 3 rfl ?_
    refine jv_iload_n C dJ7_fill_fda19_12 rfl 1 rfl ?_
    refine jv_icmp_ge (tgt := 27) C dJ7_fill_fda19_13 (by decide) h (fun h => ?_) (fun h => ?_)
    · exact jv_vret C hr dJ7_fill_fda19_27 h
    · refine jv_aload_n C dJ7_fill_fda19_16 rfl 0 rfl ?_
      refine jv_iload C dJ7_fill_fda19_17 3 rfl ?_
      refine jv_iload_n C dJ7_fill_fda19_19 rfl 2 rfl ?_
      refine jv_iast C dJ7_fill_fda19_20 h (fun M1 h => ?_)
      refine jv_iinc (v := 1) (lv' := [(4, .int (x4 + 1)), (0, .ref a0), (2, .int x2), (3, .int x3)]) C dJ7_fill_fda19_21 3 rfl (by decide) (by decide) rfl ?_
      refine jv_goto (tgt := 10) C dJ7_fill_fda19_24 (by decide) ?_
      refine jv_sub [1, 2, 3, 0] rfl ?_
      exact ih _ _ _ _ _ h
def fn_J7_fill_fda19 (N : Nat) (M : Mem) (a0 : Nat) (x1 : Int32) (x2 : Int32) (x3 : Int32) : Option (Unit × Mem) :=
  (mm_aN M a0).bind fun v1 =>
  mm_b2 (fn_J7_rangeCheck_23922 N M v1 x1 x2) fun _ M2 =>
  fn_J7_fill_fda19_10 N N M2 a0 x2 x3 x1
set_option maxRecDepth 100000 in
set_option maxHeartbeats 4000000 in
theorem ct_J7_fill_fda19 {l : Launch} {ω : Wd} {k N : Nat} {M : Mem} {a0 : Nat} {x1 : Int32} {x2 : Int32} {x3 : Int32} {r : Unit} {M' : Mem} (h : fn_J7_fill_fda19 N M a0 x1 x2 x3 = some (r, M')) : CM l ω k yJ7_fill_fda19 cJ7_fill_fda19 5 none 2 0 0 [.ref a0, .int x1, .int x2, .int x3] M none M' := by
  refine CM.ofF (by decide +kernel) (Nat.le_of_ble_eq_true rfl) fun Γ hl C hr hi => ?_
  subst hl
  unfold fn_J7_fill_fda19 at h
  refine jv_aload_n C dJ7_fill_fda19_0 rfl 0 rfl ?_
  refine jv_alen C dJ7_fill_fda19_1 h (fun v1 h => ?_)
  refine jv_iload_n C dJ7_fill_fda19_2 rfl 1 rfl ?_
  refine jv_iload_n C dJ7_fill_fda19_3 rfl 2 rfl ?_
  refine jv_sV0 (As := [.int v1, .int x1, .int x2]) C lk_J7_13 dJ7_fill_fda19_4 rfl rfl (by decide) (by decide) (by decide) (Nat.le_of_ble_eq_true rfl) h (fun _ _ h => ct_J7_rangeCheck_23922 h) (fun _ M2 h => ?_)
  refine jv_iload_n C dJ7_fill_fda19_7 rfl 1 rfl ?_
  refine jv_istore (lv' := [(4, .int x1), (0, .ref a0), (1, .int x1), (2, .int x2), (3, .int x3)]) C dJ7_fill_fda19_8 (by decide) rfl ?_
  refine jv_sub [1, 3, 4, 0] rfl ?_
  exact bk_J7_fill_fda19_10 C hr _ _ _ _ _ _ h
theorem dJ9_floorMod_7cf53_0 : decode cJ9_floorMod_7cf53 0 = .ok (.iload_n 0, 1) := by decide +kernel
theorem dJ9_floorMod_7cf53_1 : decode cJ9_floorMod_7cf53 1 = .ok (.iload_n 1, 1) := by decide +kernel
theorem dJ9_floorMod_7cf53_2 : decode cJ9_floorMod_7cf53 2 = .ok (.irem, 1) := by decide +kernel
theorem dJ9_floorMod_7cf53_3 : decode cJ9_floorMod_7cf53 3 = .ok (.istore_n 2, 1) := by decide +kernel
theorem dJ9_floorMod_7cf53_4 : decode cJ9_floorMod_7cf53 4 = .ok (.iload_n 0, 1) := by decide +kernel
theorem dJ9_floorMod_7cf53_5 : decode cJ9_floorMod_7cf53 5 = .ok (.iload_n 1, 1) := by decide +kernel
theorem dJ9_floorMod_7cf53_6 : decode cJ9_floorMod_7cf53 6 = .ok (.ixor, 1) := by decide +kernel
theorem dJ9_floorMod_7cf53_7 : decode cJ9_floorMod_7cf53 7 = .ok (.ifCond .ge 11, 3) := by decide +kernel
theorem dJ9_floorMod_7cf53_10 : decode cJ9_floorMod_7cf53 10 = .ok (.iload_n 2, 1) := by decide +kernel
theorem dJ9_floorMod_7cf53_11 : decode cJ9_floorMod_7cf53 11 = .ok (.ifCond .eq 7, 3) := by decide +kernel
theorem dJ9_floorMod_7cf53_14 : decode cJ9_floorMod_7cf53 14 = .ok (.iload_n 2, 1) := by decide +kernel
theorem dJ9_floorMod_7cf53_15 : decode cJ9_floorMod_7cf53 15 = .ok (.iload_n 1, 1) := by decide +kernel
theorem dJ9_floorMod_7cf53_16 : decode cJ9_floorMod_7cf53 16 = .ok (.iadd, 1) := by decide +kernel
theorem dJ9_floorMod_7cf53_17 : decode cJ9_floorMod_7cf53 17 = .ok (.ireturn, 1) := by decide +kernel
theorem dJ9_floorMod_7cf53_18 : decode cJ9_floorMod_7cf53 18 = .ok (.iload_n 2, 1) := by decide +kernel
theorem dJ9_floorMod_7cf53_19 : decode cJ9_floorMod_7cf53 19 = .ok (.ireturn, 1) := by decide +kernel
def fn_J9_floorMod_7cf53 (N : Nat) (M : Mem) (x0 : Int32) (x1 : Int32) : Option (Int32 × Mem) :=
  (mm_rI x0 x1).bind fun v1 =>
  if 0 ≤ (x0 ^^^ x1) then
    some (v1, M)
  else
    if v1 = 0 then
      some (v1, M)
    else
      some ((v1 + x1), M)
set_option maxRecDepth 100000 in
set_option maxHeartbeats 4000000 in
theorem ct_J9_floorMod_7cf53 {l : Launch} {ω : Wd} {k N : Nat} {M : Mem} {x0 : Int32} {x1 : Int32} {r : Int32} {M' : Mem} (h : fn_J9_floorMod_7cf53 N M x0 x1 = some (r, M')) : CM l ω k yJ9_floorMod_7cf53 cJ9_floorMod_7cf53 3 (some .int) 0 0 0 [.int x0, .int x1] M (some (.int r)) M' := by
  refine CM.ofF (by decide +kernel) (Nat.le_of_ble_eq_true rfl) fun Γ hl C hr hi => ?_
  subst hl
  unfold fn_J9_floorMod_7cf53 at h
  refine jv_iload_n C dJ9_floorMod_7cf53_0 rfl 0 rfl ?_
  refine jv_iload_n C dJ9_floorMod_7cf53_1 rfl 1 rfl ?_
  refine jv_irem C dJ9_floorMod_7cf53_2 h (fun v1 h => ?_)
  refine jv_istore_n (lv' := [(2, .int v1), (0, .int x0), (1, .int x1)]) C dJ9_floorMod_7cf53_3 rfl (by decide) rfl ?_
  refine jv_iload_n C dJ9_floorMod_7cf53_4 rfl 1 rfl ?_
  refine jv_iload_n C dJ9_floorMod_7cf53_5 rfl 2 rfl ?_
  refine jv_ixor C dJ9_floorMod_7cf53_6 ?_
  refine jv_if_ge (tgt := 18) C dJ9_floorMod_7cf53_7 (by decide) h (fun h => ?_) (fun h => ?_)
  · refine jv_iload_n C dJ9_floorMod_7cf53_18 rfl 0 rfl ?_
    exact jv_iret C hr dJ9_floorMod_7cf53_19 h
  · refine jv_iload_n C dJ9_floorMod_7cf53_10 rfl 0 rfl ?_
    refine jv_if_eq (tgt := 18) C dJ9_floorMod_7cf53_11 (by decide) h (fun h => ?_) (fun h => ?_)
    · refine jv_iload_n C dJ9_floorMod_7cf53_18 rfl 0 rfl ?_
      exact jv_iret C hr dJ9_floorMod_7cf53_19 h
    · refine jv_iload_n C dJ9_floorMod_7cf53_14 rfl 0 rfl ?_
      refine jv_iload_n C dJ9_floorMod_7cf53_15 rfl 2 rfl ?_
      refine jv_iadd C dJ9_floorMod_7cf53_16 ?_
      exact jv_iret C hr dJ9_floorMod_7cf53_17 h
theorem dJ7_fill_bad5a_0 : decode cJ7_fill_bad5a 0 = .ok (.aload_n 0, 1) := by decide +kernel
theorem dJ7_fill_bad5a_1 : decode cJ7_fill_bad5a 1 = .ok (.arraylength, 1) := by decide +kernel
theorem dJ7_fill_bad5a_2 : decode cJ7_fill_bad5a 2 = .ok (.iload_n 1, 1) := by decide +kernel
theorem dJ7_fill_bad5a_3 : decode cJ7_fill_bad5a 3 = .ok (.iload_n 2, 1) := by decide +kernel
theorem dJ7_fill_bad5a_4 : decode cJ7_fill_bad5a 4 = .ok (.invokestatic 13, 3) := by decide +kernel
theorem dJ7_fill_bad5a_7 : decode cJ7_fill_bad5a 7 = .ok (.iload_n 1, 1) := by decide +kernel
theorem dJ7_fill_bad5a_8 : decode cJ7_fill_bad5a 8 = .ok (.istore 5, 2) := by decide +kernel
theorem dJ7_fill_bad5a_10 : decode cJ7_fill_bad5a 10 = .ok (.iload 5, 2) := by decide +kernel
theorem dJ7_fill_bad5a_12 : decode cJ7_fill_bad5a 12 = .ok (.iload_n 2, 1) := by decide +kernel
theorem dJ7_fill_bad5a_13 : decode cJ7_fill_bad5a 13 = .ok (.if_icmp .ge 14, 3) := by decide +kernel
theorem dJ7_fill_bad5a_16 : decode cJ7_fill_bad5a 16 = .ok (.aload_n 0, 1) := by decide +kernel
theorem dJ7_fill_bad5a_17 : decode cJ7_fill_bad5a 17 = .ok (.iload 5, 2) := by decide +kernel
theorem dJ7_fill_bad5a_19 : decode cJ7_fill_bad5a 19 = .ok (.lload_n 3, 1) := by decide +kernel
theorem dJ7_fill_bad5a_20 : decode cJ7_fill_bad5a 20 = .ok (.lastore, 1) := by decide +kernel
theorem dJ7_fill_bad5a_21 : decode cJ7_fill_bad5a 21 = .ok (.iinc 5 1, 3) := by decide +kernel
theorem dJ7_fill_bad5a_24 : decode cJ7_fill_bad5a 24 = .ok (.goto (-14), 3) := by decide +kernel
theorem dJ7_fill_bad5a_27 : decode cJ7_fill_bad5a 27 = .ok (.return_, 1) := by decide +kernel
def fn_J7_fill_bad5a_10 (N : Nat) : Nat → Mem → Nat → Int32 → Int64 → Int32 → Option (Unit × Mem)
  | 0, _, _, _, _, _ => none
  | n + 1, M, a0, x2, y3, x5 =>
    if x2 ≤ x5 then
      some ((), M)
    else
      (mm_sL M a0 x5 y3).bind fun M1 =>
      fn_J7_fill_bad5a_10 N n M1 a0 x2 y3 ((x5 + 1))
set_option maxRecDepth 100000 in
set_option maxHeartbeats 4000000 in
theorem bk_J7_fill_bad5a_10 {Γ : Gm} {ω : Wd} {k N : Nat} {r : Unit} {M' : Mem} (C : Cx Γ cJ7_fill_bad5a 6 RJ7 ω 2 0 0) (hr : Γ.meth.sig.returnType = none) : ∀ (n : Nat) (M : Mem) (a0 : Nat) (x2 : Int32) (y3 : Int64) (x5 : Int32), fn_J7_fill_bad5a_10 N n M a0 x2 y3 x5 = some (r, M') → JJ Γ (QF Γ ω k 0 0 none M') 6 ω k M 0 0 10 [(0, .ref a0), (2, .int x2), (3, .long y3), (5, .int x5)] [] := by
  intro n
  induction n with
  | zero => intro M a0 x2 y3 x5 h; exact jv_no h
  | succ n ih =>
    intro M a0 x2 y3 x5 h
    rw [fn_J7_fill_bad5a_10.eq_2] at h
    refine jv_iload C dJ7_fill_bad5a_10 3 rfl ?_
    refine jv_iload_n C dJ7_fill_bad5a_12 rfl 1 rfl ?_
    refine jv_icmp_ge (tgt := 27) C dJ7_fill_bad5a_13 (by decide) h (fun h => ?_) (fun h => ?_)
    · exact jv_vret C hr dJ7_fill_bad5a_27 h
    · refine jv_aload_n C dJ7_fill_bad5a_16 rfl 0 rfl ?_
      refine jv_iload C dJ7_fill_bad5a_17 3 rfl ?_
      refine jv_lload_n C dJ7_fill_bad5a_19 rfl 2 rfl ?_
      refine jv_last C dJ7_fill_bad5a_20 h (fun M1 h => ?_)
      refine jv_iinc (v := 1) (lv' := [(5, .int (x5 + 1)), (0, .ref a0), (2, .int x2), (3, .long y3)]) C dJ7_fill_bad5a_21 3 rfl (by decide) (by decide) rfl ?_
      refine jv_goto (tgt := 10) C dJ7_fill_bad5a_24 (by decide) ?_
      refine jv_sub [1, 2, 3, 0] rfl ?_
      exact ih _ _ _ _ _ h
def fn_J7_fill_bad5a (N : Nat) (M : Mem) (a0 : Nat) (x1 : Int32) (x2 : Int32) (y3 : Int64) : Option (Unit × Mem) :=
  (mm_aN M a0).bind fun v1 =>
  mm_b2 (fn_J7_rangeCheck_23922 N M v1 x1 x2) fun _ M2 =>
  fn_J7_fill_bad5a_10 N N M2 a0 x2 y3 x1
set_option maxRecDepth 100000 in
set_option maxHeartbeats 4000000 in
theorem ct_J7_fill_bad5a {l : Launch} {ω : Wd} {k N : Nat} {M : Mem} {a0 : Nat} {x1 : Int32} {x2 : Int32} {y3 : Int64} {r : Unit} {M' : Mem} (h : fn_J7_fill_bad5a N M a0 x1 x2 y3 = some (r, M')) : CM l ω k yJ7_fill_bad5a cJ7_fill_bad5a 6 none 2 0 0 [.ref a0, .int x1, .int x2, .long y3] M none M' := by
  refine CM.ofF (by decide +kernel) (Nat.le_of_ble_eq_true rfl) fun Γ hl C hr hi => ?_
  subst hl
  unfold fn_J7_fill_bad5a at h
  refine jv_aload_n C dJ7_fill_bad5a_0 rfl 0 rfl ?_
  refine jv_alen C dJ7_fill_bad5a_1 h (fun v1 h => ?_)
  refine jv_iload_n C dJ7_fill_bad5a_2 rfl 1 rfl ?_
  refine jv_iload_n C dJ7_fill_bad5a_3 rfl 2 rfl ?_
  refine jv_sV0 (As := [.int v1, .int x1, .int x2]) C lk_J7_13 dJ7_fill_bad5a_4 rfl rfl (by decide) (by decide) (by decide) (Nat.le_of_ble_eq_true rfl) h (fun _ _ h => ct_J7_rangeCheck_23922 h) (fun _ M2 h => ?_)
  refine jv_iload_n C dJ7_fill_bad5a_7 rfl 1 rfl ?_
  refine jv_istore (lv' := [(5, .int x1), (0, .ref a0), (1, .int x1), (2, .int x2), (3, .long y3)]) C dJ7_fill_bad5a_8 (by decide) rfl ?_
  refine jv_sub [1, 3, 4, 0] rfl ?_
  exact bk_J7_fill_bad5a_10 C hr _ _ _ _ _ _ h
theorem dJ7_fill_53178_0 : decode cJ7_fill_53178 0 = .ok (.iconst 0, 1) := by decide +kernel
theorem dJ7_fill_53178_1 : decode cJ7_fill_53178 1 = .ok (.istore_n 2, 1) := by decide +kernel
theorem dJ7_fill_53178_2 : decode cJ7_fill_53178 2 = .ok (.aload_n 0, 1) := by decide +kernel
theorem dJ7_fill_53178_3 : decode cJ7_fill_53178 3 = .ok (.arraylength, 1) := by decide +kernel
theorem dJ7_fill_53178_4 : decode cJ7_fill_53178 4 = .ok (.istore_n 3, 1) := by decide +kernel
theorem dJ7_fill_53178_5 : decode cJ7_fill_53178 5 = .ok (.iload_n 2, 1) := by decide +kernel
theorem dJ7_fill_53178_6 : decode cJ7_fill_53178 6 = .ok (.iload_n 3, 1) := by decide +kernel
theorem dJ7_fill_53178_7 : decode cJ7_fill_53178 7 = .ok (.if_icmp .ge 13, 3) := by decide +kernel
theorem dJ7_fill_53178_10 : decode cJ7_fill_53178 10 = .ok (.aload_n 0, 1) := by decide +kernel
theorem dJ7_fill_53178_11 : decode cJ7_fill_53178 11 = .ok (.iload_n 2, 1) := by decide +kernel
theorem dJ7_fill_53178_12 : decode cJ7_fill_53178 12 = .ok (.iload_n 1, 1) := by decide +kernel
theorem dJ7_fill_53178_13 : decode cJ7_fill_53178 13 = .ok (.iastore, 1) := by decide +kernel
theorem dJ7_fill_53178_14 : decode cJ7_fill_53178 14 = .ok (.iinc 2 1, 3) := by decide +kernel
theorem dJ7_fill_53178_17 : decode cJ7_fill_53178 17 = .ok (.goto (-12), 3) := by decide +kernel
theorem dJ7_fill_53178_20 : decode cJ7_fill_53178 20 = .ok (.return_, 1) := by decide +kernel
def fn_J7_fill_53178_5 (N : Nat) : Nat → Mem → Nat → Int32 → Int32 → Int32 → Option (Unit × Mem)
  | 0, _, _, _, _, _ => none
  | n + 1, M, a0, x1, x2, x3 =>
    if x3 ≤ x2 then
      some ((), M)
    else
      (mm_sI M a0 0 x2 x1).bind fun M1 =>
      fn_J7_fill_53178_5 N n M1 a0 x1 ((x2 + 1)) x3
set_option maxRecDepth 100000 in
set_option maxHeartbeats 4000000 in
theorem bk_J7_fill_53178_5 {Γ : Gm} {ω : Wd} {k N : Nat} {r : Unit} {M' : Mem} (C : Cx Γ cJ7_fill_53178 4 RJ7 ω 0 0 0) (hr : Γ.meth.sig.returnType = none) : ∀ (n : Nat) (M : Mem) (a0 : Nat) (x1 : Int32) (x2 : Int32) (x3 : Int32), fn_J7_fill_53178_5 N n M a0 x1 x2 x3 = some (r, M') → JJ Γ (QF Γ ω k 0 0 none M') 4 ω k M 0 0 5 [(0, .ref a0), (1, .int x1), (2, .int x2), (3, .int x3)] [] := by
  intro n
  induction n with
  | zero => intro M a0 x1 x2 x3 h; exact jv_no h
  | succ n ih =>
    intro M a0 x1 x2 x3 h
    rw [fn_J7_fill_53178_5.eq_2] at h
    refine jv_iload_n C dJ7_fill_53178_5 rfl 2 rfl ?_
    refine jv_iload_n C dJ7_fill_53178_6 rfl 3 rfl ?_
    refine jv_icmp_ge (tgt := 20) C dJ7_fill_53178_7 (by decide) h (fun h => ?_) (fun h => ?_)
    · exact jv_vret C hr dJ7_fill_53178_20 h
    · refine jv_aload_n C dJ7_fill_53178_10 rfl 0 rfl ?_
      refine jv_iload_n C dJ7_fill_53178_11 rfl 2 rfl ?_
      refine jv_iload_n C dJ7_fill_53178_12 rfl 1 rfl ?_
      refine jv_iast C dJ7_fill_53178_13 h (fun M1 h => ?_)
      refine jv_iinc (v := 1) (lv' := [(2, .int (x2 + 1)), (0, .ref a0), (1, .int x1), (3, .int x3)]) C dJ7_fill_53178_14 2 rfl (by decide) (by decide) rfl ?_
      refine jv_goto (tgt := 5) C dJ7_fill_53178_17 (by decide) ?_
      refine jv_sub [1, 2, 0, 3] rfl ?_
      exact ih _ _ _ _ _ h
def fn_J7_fill_53178 (N : Nat) (M : Mem) (a0 : Nat) (x1 : Int32) : Option (Unit × Mem) :=
  (mm_aN M a0).bind fun v1 =>
  fn_J7_fill_53178_5 N N M a0 x1 0 v1
set_option maxRecDepth 100000 in
set_option maxHeartbeats 4000000 in
theorem ct_J7_fill_53178 {l : Launch} {ω : Wd} {k N : Nat} {M : Mem} {a0 : Nat} {x1 : Int32} {r : Unit} {M' : Mem} (h : fn_J7_fill_53178 N M a0 x1 = some (r, M')) : CM l ω k yJ7_fill_53178 cJ7_fill_53178 4 none 0 0 0 [.ref a0, .int x1] M none M' := by
  refine CM.ofF (by decide +kernel) (Nat.le_of_ble_eq_true rfl) fun Γ hl C hr hi => ?_
  subst hl
  unfold fn_J7_fill_53178 at h
  refine jv_iconst (v := 0) C dJ7_fill_53178_0 (by decide) ?_
  refine jv_istore_n (lv' := [(2, .int 0), (0, .ref a0), (1, .int x1)]) C dJ7_fill_53178_1 rfl (by decide) rfl ?_
  refine jv_aload_n C dJ7_fill_53178_2 rfl 1 rfl ?_
  refine jv_alen C dJ7_fill_53178_3 h (fun v1 h => ?_)
  refine jv_istore_n (lv' := [(3, .int v1), (2, .int 0), (0, .ref a0), (1, .int x1)]) C dJ7_fill_53178_4 rfl (by decide) rfl ?_
  refine jv_sub [2, 3, 1, 0] rfl ?_
  exact bk_J7_fill_53178_5 C hr _ _ _ _ _ _ h
end
section
theorem dX6_init_0 : decode cX6_init 0 = .ok (.aload_n 0, 1) := by decide +kernel
theorem dX6_init_1 : decode cX6_init 1 = .ok (.invokespecial 3, 3) := by decide +kernel
theorem dX6_init_4 : decode cX6_init 4 = .ok (.aload_n 0, 1) := by decide +kernel
theorem dX6_init_5 : decode cX6_init 5 = .ok (.iconst 0, 1) := by decide +kernel
theorem dX6_init_6 : decode cX6_init 6 = .ok (.iload_n 1, 1) := by decide +kernel
theorem dX6_init_7 : decode cX6_init 7 = .ok (.invokestatic 9, 3) := by decide +kernel
theorem dX6_init_10 : decode cX6_init 10 = .ok (.newarray .int, 2) := by decide +kernel
theorem dX6_init_12 : decode cX6_init 12 = .ok (.putfield 15, 3) := by decide +kernel
theorem dX6_init_15 : decode cX6_init 15 = .ok (.return_, 1) := by decide +kernel
def fn_X6_init (N : Nat) (M : Mem) (a0 : Nat) (x1 : Int32) : Option (Unit × Mem) :=
  mm_lt (if 0 < x1 then x1 else 0) fun v1 =>
  mm_b2 (mm_nA M 60 v1 (fun N => .inl (0, N, .inl (fun _ => 0)))) fun a2 M3 =>
  (mm_pV M3 a0 6 0 (.ref a2)).bind fun M4 =>
  some ((), M4)
set_option maxRecDepth 100000 in
set_option maxHeartbeats 4000000 in
theorem ct_X6_init {l : Launch} {ω : Wd} {N : Nat} {M : Mem} {a0 : Nat} {x1 : Int32} {r : Unit} {M' : Mem} (h : fn_X6_init N M a0 x1 = some (r, M')) : CM l ω 0 yX6_init cX6_init 2 none 1 1 60 [.ref a0, .int x1] M none M' := by
  refine CM.of (by decide) (Nat.le_of_ble_eq_true rfl) fun Γ hl C hr hi => ?_
  subst hl
  unfold fn_X6_init at h
  refine jv_aload_n C dX6_init_0 rfl 0 rfl ?_
  refine jv_objInit C gw_184 gw_129 gw_130 (Nat.le_of_ble_eq_true rfl) dX6_init_1 ?_
  refine jv_aload_n C dX6_init_4 rfl 0 rfl ?_
  refine jv_iconst (v := 0) C dX6_init_5 (by decide) ?_
  refine jv_iload_n C dX6_init_6 rfl 1 rfl ?_
  refine jv_mmax C gw_185 gw_186 gw_98 gw_187 (by decide) (by decide) (Nat.le_of_ble_eq_true rfl) dX6_init_7 ?_
  refine jv_nameI h (fun v1 h => ?_)
  refine jv_newa0 (lim := 60) C gw_200 (by decide) (by decide) (by decide) dX6_init_10 h (fun a2 M3 h => ?_)
  refine jv_putFR C fp_X6_15 hi dX6_init_12 (fun _ => ⟨rfl, rfl⟩) h (fun M4 h => ?_)
  exact jv_vret C hr dX6_init_15 h
theorem dX6_empty_0 : decode cX6_empty 0 = .ok (.aload_n 0, 1) := by decide +kernel
theorem dX6_empty_1 : decode cX6_empty 1 = .ok (.iconst 0, 1) := by decide +kernel
theorem dX6_empty_2 : decode cX6_empty 2 = .ok (.putfield 21, 3) := by decide +kernel
theorem dX6_empty_5 : decode cX6_empty 5 = .ok (.return_, 1) := by decide +kernel
def fn_X6_empty (N : Nat) (M : Mem) (a0 : Nat) : Option (Unit × Mem) :=
  (mm_pV M a0 6 1 (.int 0)).bind fun M1 =>
  some ((), M1)
set_option maxRecDepth 100000 in
set_option maxHeartbeats 4000000 in
theorem ct_X6_empty {l : Launch} {ω : Wd} {k N : Nat} {M : Mem} {a0 : Nat} {r : Unit} {M' : Mem} (h : fn_X6_empty N M a0 = some (r, M')) : CM l ω k yX6_empty cX6_empty 1 none 0 0 0 [.ref a0] M none M' := by
  refine CM.of (by decide) (Nat.le_of_ble_eq_true rfl) fun Γ hl C hr hi => ?_
  subst hl
  unfold fn_X6_empty at h
  refine jv_aload_n C dX6_empty_0 rfl 0 rfl ?_
  refine jv_iconst (v := 0) C dX6_empty_1 (by decide) ?_
  refine jv_putI C fp_X6_21 dX6_empty_2 h (fun M1 h => ?_)
  exact jv_vret C hr dX6_empty_5 h
theorem dX6_fillWithZeros_0 : decode cX6_fillWithZeros 0 = .ok (.aload_n 0, 1) := by decide +kernel
theorem dX6_fillWithZeros_1 : decode cX6_fillWithZeros 1 = .ok (.iconst 0, 1) := by decide +kernel
theorem dX6_fillWithZeros_2 : decode cX6_fillWithZeros 2 = .ok (.iload_n 1, 1) := by decide +kernel
theorem dX6_fillWithZeros_3 : decode cX6_fillWithZeros 3 = .ok (.aload_n 0, 1) := by decide +kernel
theorem dX6_fillWithZeros_4 : decode cX6_fillWithZeros 4 = .ok (.getfield 15, 3) := by decide +kernel
theorem dX6_fillWithZeros_7 : decode cX6_fillWithZeros 7 = .ok (.arraylength, 1) := by decide +kernel
theorem dX6_fillWithZeros_8 : decode cX6_fillWithZeros 8 = .ok (.invokestatic 29, 3) := by decide +kernel
theorem dX6_fillWithZeros_11 : decode cX6_fillWithZeros 11 = .ok (.invokestatic 9, 3) := by decide +kernel
theorem dX6_fillWithZeros_14 : decode cX6_fillWithZeros 14 = .ok (.putfield 21, 3) := by decide +kernel
theorem dX6_fillWithZeros_17 : decode cX6_fillWithZeros 17 = .ok (.aload_n 0, 1) := by decide +kernel
theorem dX6_fillWithZeros_18 : decode cX6_fillWithZeros 18 = .ok (.getfield 15, 3) := by decide +kernel
theorem dX6_fillWithZeros_21 : decode cX6_fillWithZeros 21 = .ok (.iconst 0, 1) := by decide +kernel
theorem dX6_fillWithZeros_22 : decode cX6_fillWithZeros 22 = .ok (.aload_n 0, 1) := by decide +kernel
theorem dX6_fillWithZeros_23 : decode cX6_fillWithZeros 23 = .ok (.getfield 21, 3) := by decide +kernel
theorem dX6_fillWithZeros_26 : decode cX6_fillWithZeros 26 = .ok (.iconst 0, 1) := by decide +kernel
theorem dX6_fillWithZeros_27 : decode cX6_fillWithZeros 27 = .ok (.invokestatic 32, 3) := by decide +kernel
theorem dX6_fillWithZeros_30 : decode cX6_fillWithZeros 30 = .ok (.return_, 1) := by decide +kernel
def fn_X6_fillWithZeros (N : Nat) (M : Mem) (a0 : Nat) (x1 : Int32) : Option (Unit × Mem) :=
  (mm_gR M a0 6 0).bind fun a1 =>
  (mm_aN M a1).bind fun v2 =>
  mm_lt (if v2 < x1 then v2 else x1) fun v3 =>
  mm_lt (if 0 < v3 then v3 else 0) fun v4 =>
  (mm_pV M a0 6 1 (.int v4)).bind fun M5 =>
  (mm_gR M5 a0 6 0).bind fun a6 =>
  (mm_gI M5 a0 6 1).bind fun v7 =>
  mm_b2 (fn_J7_fill_fda19 N M5 a6 0 v7 0) fun _ M8 =>
  some ((), M8)
set_option maxRecDepth 100000 in
set_option maxHeartbeats 4000000 in
theorem ct_X6_fillWithZeros {l : Launch} {ω : Wd} {k N : Nat} {M : Mem} {a0 : Nat} {x1 : Int32} {r : Unit} {M' : Mem} (h : fn_X6_fillWithZeros N M a0 x1 = some (r, M')) : CM l ω k yX6_fillWithZeros cX6_fillWithZeros 2 none 3 0 0 [.ref a0, .int x1] M none M' := by
  refine CM.of (by decide) (Nat.le_of_ble_eq_true rfl) fun Γ hl C hr hi => ?_
  subst hl
  unfold fn_X6_fillWithZeros at h
  refine jv_aload_n C dX6_fillWithZeros_0 rfl 0 rfl ?_
  refine jv_iconst (v := 0) C dX6_fillWithZeros_1 (by decide) ?_
  refine jv_iload_n C dX6_fillWithZeros_2 rfl 1 rfl ?_
  refine jv_aload_n C dX6_fillWithZeros_3 rfl 0 rfl ?_
  refine jv_getR C fa_X6_15 dX6_fillWithZeros_4 h (fun a1 h => ?_)
  refine jv_alen C dX6_fillWithZeros_7 h (fun v2 h => ?_)
  refine jv_mmin C gw_279 gw_280 gw_98 gw_281 (by decide) (by decide) (Nat.le_of_ble_eq_true rfl) dX6_fillWithZeros_8 ?_
  refine jv_nameI h (fun v3 h => ?_)
  refine jv_mmax C gw_185 gw_186 gw_98 gw_187 (by decide) (by decide) (Nat.le_of_ble_eq_true rfl) dX6_fillWithZeros_11 ?_
  refine jv_nameI h (fun v4 h => ?_)
  refine jv_putI C fp_X6_21 dX6_fillWithZeros_14 h (fun M5 h => ?_)
  refine jv_aload_n C dX6_fillWithZeros_17 rfl 0 rfl ?_
  refine jv_getR C fa_X6_15 dX6_fillWithZeros_18 h (fun a6 h => ?_)
  refine jv_iconst (v := 0) C dX6_fillWithZeros_21 (by decide) ?_
  refine jv_aload_n C dX6_fillWithZeros_22 rfl 0 rfl ?_
  refine jv_getI C fa_X6_21 dX6_fillWithZeros_23 h (fun v7 h => ?_)
  refine jv_iconst (v := 0) C dX6_fillWithZeros_26 (by decide) ?_
  refine jv_sV0 (As := [.ref a6, .int 0, .int v7, .int 0]) C lk_X6_32 dX6_fillWithZeros_27 rfl rfl (by decide) (by decide) (by decide) (Nat.le_of_ble_eq_true rfl) h (fun _ _ h => ct_J7_fill_fda19 h) (fun _ M8 h => ?_)
  exact jv_vret C hr dX6_fillWithZeros_30 h
theorem dX6_copyFrom_0 : decode cX6_copyFrom 0 = .ok (.aload_n 0, 1) := by decide +kernel
theorem dX6_copyFrom_1 : decode cX6_copyFrom 1 = .ok (.iconst 0, 1) := by decide +kernel
theorem dX6_copyFrom_2 : decode cX6_copyFrom 2 = .ok (.aload_n 1, 1) := by decide +kernel
theorem dX6_copyFrom_3 : decode cX6_copyFrom 3 = .ok (.getfield 21, 3) := by decide +kernel
theorem dX6_copyFrom_6 : decode cX6_copyFrom 6 = .ok (.aload_n 1, 1) := by decide +kernel
theorem dX6_copyFrom_7 : decode cX6_copyFrom 7 = .ok (.getfield 15, 3) := by decide +kernel
theorem dX6_copyFrom_10 : decode cX6_copyFrom 10 = .ok (.arraylength, 1) := by decide +kernel
theorem dX6_copyFrom_11 : decode cX6_copyFrom 11 = .ok (.aload_n 0, 1) := by decide +kernel
theorem dX6_copyFrom_12 : decode cX6_copyFrom 12 = .ok (.getfield 15, 3) := by decide +kernel
theorem dX6_copyFrom_15 : decode cX6_copyFrom 15 = .ok (.arraylength, 1) := by decide +kernel
theorem dX6_copyFrom_16 : decode cX6_copyFrom 16 = .ok (.invokestatic 29, 3) := by decide +kernel
theorem dX6_copyFrom_19 : decode cX6_copyFrom 19 = .ok (.invokestatic 29, 3) := by decide +kernel
theorem dX6_copyFrom_22 : decode cX6_copyFrom 22 = .ok (.invokestatic 9, 3) := by decide +kernel
theorem dX6_copyFrom_25 : decode cX6_copyFrom 25 = .ok (.putfield 21, 3) := by decide +kernel
theorem dX6_copyFrom_28 : decode cX6_copyFrom 28 = .ok (.aload_n 1, 1) := by decide +kernel
theorem dX6_copyFrom_29 : decode cX6_copyFrom 29 = .ok (.getfield 15, 3) := by decide +kernel
theorem dX6_copyFrom_32 : decode cX6_copyFrom 32 = .ok (.iconst 0, 1) := by decide +kernel
theorem dX6_copyFrom_33 : decode cX6_copyFrom 33 = .ok (.aload_n 0, 1) := by decide +kernel
theorem dX6_copyFrom_34 : decode cX6_copyFrom 34 = .ok (.getfield 15, 3) := by decide +kernel
theorem dX6_copyFrom_37 : decode cX6_copyFrom 37 = .ok (.iconst 0, 1) := by decide +kernel
theorem dX6_copyFrom_38 : decode cX6_copyFrom 38 = .ok (.aload_n 0, 1) := by decide +kernel
theorem dX6_copyFrom_39 : decode cX6_copyFrom 39 = .ok (.getfield 21, 3) := by decide +kernel
theorem dX6_copyFrom_42 : decode cX6_copyFrom 42 = .ok (.invokestatic 38, 3) := by decide +kernel
theorem dX6_copyFrom_45 : decode cX6_copyFrom 45 = .ok (.return_, 1) := by decide +kernel
def fn_X6_copyFrom (N : Nat) (M : Mem) (a0 : Nat) (a1 : Nat) : Option (Unit × Mem) :=
  (mm_gI M a1 6 1).bind fun v1 =>
  (mm_gR M a1 6 0).bind fun a2 =>
  (mm_aN M a2).bind fun v3 =>
  (mm_gR M a0 6 0).bind fun a4 =>
  (mm_aN M a4).bind fun v5 =>
  mm_lt (if v5 < v3 then v5 else v3) fun v6 =>
  mm_lt (if v6 < v1 then v6 else v1) fun v7 =>
  mm_lt (if 0 < v7 then v7 else 0) fun v8 =>
  (mm_pV M a0 6 1 (.int v8)).bind fun M9 =>
  (mm_gR M9 a1 6 0).bind fun a10 =>
  (mm_gR M9 a0 6 0).bind fun a11 =>
  (mm_gI M9 a0 6 1).bind fun v12 =>
  (mm_cp M9 a10 0 a11 0 v12).bind fun M13 =>
  some ((), M13)
set_option maxRecDepth 100000 in
set_option maxHeartbeats 4000000 in
theorem ct_X6_copyFrom {l : Launch} {ω : Wd} {k N : Nat} {M : Mem} {a0 : Nat} {a1 : Nat} {r : Unit} {M' : Mem} (h : fn_X6_copyFrom N M a0 a1 = some (r, M')) : CM l ω k yX6_copyFrom cX6_copyFrom 2 none 1 0 0 [.ref a0, .ref a1] M none M' := by
  refine CM.of (by decide) (Nat.le_of_ble_eq_true rfl) fun Γ hl C hr hi => ?_
  subst hl
  unfold fn_X6_copyFrom at h
  refine jv_aload_n C dX6_copyFrom_0 rfl 0 rfl ?_
  refine jv_iconst (v := 0) C dX6_copyFrom_1 (by decide) ?_
  refine jv_aload_n C dX6_copyFrom_2 rfl 1 rfl ?_
  refine jv_getI C fa_X6_21 dX6_copyFrom_3 h (fun v1 h => ?_)
  refine jv_aload_n C dX6_copyFrom_6 rfl 1 rfl ?_
  refine jv_getR C fa_X6_15 dX6_copyFrom_7 h (fun a2 h => ?_)
  refine jv_alen C dX6_copyFrom_10 h (fun v3 h => ?_)
  refine jv_aload_n C dX6_copyFrom_11 rfl 0 rfl ?_
  refine jv_getR C fa_X6_15 dX6_copyFrom_12 h (fun a4 h => ?_)
  refine jv_alen C dX6_copyFrom_15 h (fun v5 h => ?_)
  refine jv_mmin C gw_279 gw_280 gw_98 gw_281 (by decide) (by decide) (Nat.le_of_ble_eq_true rfl) dX6_copyFrom_16 ?_
  refine jv_nameI h (fun v6 h => ?_)
  refine jv_mmin C gw_279 gw_280 gw_98 gw_281 (by decide) (by decide) (Nat.le_of_ble_eq_true rfl) dX6_copyFrom_19 ?_
  refine jv_nameI h (fun v7 h => ?_)
  refine jv_mmax C gw_185 gw_186 gw_98 gw_187 (by decide) (by decide) (Nat.le_of_ble_eq_true rfl) dX6_copyFrom_22 ?_
  refine jv_nameI h (fun v8 h => ?_)
  refine jv_putI C fp_X6_21 dX6_copyFrom_25 h (fun M9 h => ?_)
  refine jv_aload_n C dX6_copyFrom_28 rfl 1 rfl ?_
  refine jv_getR C fa_X6_15 dX6_copyFrom_29 h (fun a10 h => ?_)
  refine jv_iconst (v := 0) C dX6_copyFrom_32 (by decide) ?_
  refine jv_aload_n C dX6_copyFrom_33 rfl 0 rfl ?_
  refine jv_getR C fa_X6_15 dX6_copyFrom_34 h (fun a11 h => ?_)
  refine jv_iconst (v := 0) C dX6_copyFrom_37 (by decide) ?_
  refine jv_aload_n C dX6_copyFrom_38 rfl 0 rfl ?_
  refine jv_getI C fa_X6_21 dX6_copyFrom_39 h (fun v12 h => ?_)
  refine jv_acopy C gw_1202 gw_403 gw_402 gw_110 dX6_copyFrom_42 (Nat.le_of_ble_eq_true rfl) h (fun M13 h => ?_)
  exact jv_vret C hr dX6_copyFrom_45 h
theorem dX6_at_0 : decode cX6_at 0 = .ok (.iload_n 1, 1) := by decide +kernel
theorem dX6_at_1 : decode cX6_at 1 = .ok (.ifCond .lt 29, 3) := by decide +kernel
theorem dX6_at_4 : decode cX6_at 4 = .ok (.iload_n 1, 1) := by decide +kernel
theorem dX6_at_5 : decode cX6_at 5 = .ok (.aload_n 0, 1) := by decide +kernel
theorem dX6_at_6 : decode cX6_at 6 = .ok (.getfield 21, 3) := by decide +kernel
theorem dX6_at_9 : decode cX6_at 9 = .ok (.if_icmp .ge 21, 3) := by decide +kernel
theorem dX6_at_12 : decode cX6_at 12 = .ok (.iload_n 1, 1) := by decide +kernel
theorem dX6_at_13 : decode cX6_at 13 = .ok (.aload_n 0, 1) := by decide +kernel
theorem dX6_at_14 : decode cX6_at 14 = .ok (.getfield 15, 3) := by decide +kernel
theorem dX6_at_17 : decode cX6_at 17 = .ok (.arraylength, 1) := by decide +kernel
theorem dX6_at_18 : decode cX6_at 18 = .ok (.if_icmp .ge 12, 3) := by decide +kernel
theorem dX6_at_21 : decode cX6_at 21 = .ok (.aload_n 0, 1) := by decide +kernel
theorem dX6_at_22 : decode cX6_at 22 = .ok (.getfield 15, 3) := by decide +kernel
theorem dX6_at_25 : decode cX6_at 25 = .ok (.iload_n 1, 1) := by decide +kernel
theorem dX6_at_26 : decode cX6_at 26 = .ok (.iaload, 1) := by decide +kernel
theorem dX6_at_27 : decode cX6_at 27 = .ok (.goto 4, 3) := by decide +kernel
theorem dX6_at_30 : decode cX6_at 30 = .ok (.iconst (-1), 1) := by decide +kernel
theorem dX6_at_31 : decode cX6_at 31 = .ok (.ireturn, 1) := by decide +kernel
def fn_X6_at (N : Nat) (M : Mem) (a0 : Nat) (x1 : Int32) : Option (Int32 × Mem) :=
  if x1 < 0 then
    some ((-1), M)
  else
    (mm_gI M a0 6 1).bind fun v1 =>
    if v1 ≤ x1 then
      some ((-1), M)
    else
      (mm_gR M a0 6 0).bind fun a2 =>
      (mm_aN M a2).bind fun v3 =>
      if v3 ≤ x1 then
        some ((-1), M)
      else
        (mm_gR M a0 6 0).bind fun a4 =>
        (mm_aI M a4 0 x1).bind fun v5 =>
        some (v5, M)
set_option maxRecDepth 100000 in
set_option maxHeartbeats 4000000 in
theorem ct_X6_at {l : Launch} {ω : Wd} {k N : Nat} {M : Mem} {a0 : Nat} {x1 : Int32} {r : Int32} {M' : Mem} (h : fn_X6_at N M a0 x1 = some (r, M')) : CM l ω k yX6_at cX6_at 2 (some .int) 0 0 0 [.ref a0, .int x1] M (some (.int r)) M' := by
  refine CM.of (by decide) (Nat.le_of_ble_eq_true rfl) fun Γ hl C hr hi => ?_
  subst hl
  unfold fn_X6_at at h
  refine jv_iload_n C dX6_at_0 rfl 1 rfl ?_
  refine jv_if_lt (tgt := 30) C dX6_at_1 (by decide) h (fun h => ?_) (fun h => ?_)
  · refine jv_iconst (v := (-1)) C dX6_at_30 (by decide) ?_
    exact jv_iret C hr dX6_at_31 h
  · refine jv_iload_n C dX6_at_4 rfl 1 rfl ?_
    refine jv_aload_n C dX6_at_5 rfl 0 rfl ?_
    refine jv_getI C fa_X6_21 dX6_at_6 h (fun v1 h => ?_)
    refine jv_icmp_ge (tgt := 30) C dX6_at_9 (by decide) h (fun h => ?_) (fun h => ?_)
    · refine jv_iconst (v := (-1)) C dX6_at_30 (by decide) ?_
      exact jv_iret C hr dX6_at_31 h
    · refine jv_iload_n C dX6_at_12 rfl 1 rfl ?_
      refine jv_aload_n C dX6_at_13 rfl 0 rfl ?_
      refine jv_getR C fa_X6_15 dX6_at_14 h (fun a2 h => ?_)
      refine jv_alen C dX6_at_17 h (fun v3 h => ?_)
      refine jv_icmp_ge (tgt := 30) C dX6_at_18 (by decide) h (fun h => ?_) (fun h => ?_)
      · refine jv_iconst (v := (-1)) C dX6_at_30 (by decide) ?_
        exact jv_iret C hr dX6_at_31 h
      · refine jv_aload_n C dX6_at_21 rfl 0 rfl ?_
        refine jv_getR C fa_X6_15 dX6_at_22 h (fun a4 h => ?_)
        refine jv_iload_n C dX6_at_25 rfl 1 rfl ?_
        refine jv_iald C dX6_at_26 h (fun v5 h => ?_)
        refine jv_goto (tgt := 31) C dX6_at_27 (by decide) ?_
        exact jv_iret C hr dX6_at_31 h
theorem dX6_isFull_0 : decode cX6_isFull 0 = .ok (.aload_n 0, 1) := by decide +kernel
theorem dX6_isFull_1 : decode cX6_isFull 1 = .ok (.getfield 21, 3) := by decide +kernel
theorem dX6_isFull_4 : decode cX6_isFull 4 = .ok (.aload_n 0, 1) := by decide +kernel
theorem dX6_isFull_5 : decode cX6_isFull 5 = .ok (.getfield 15, 3) := by decide +kernel
theorem dX6_isFull_8 : decode cX6_isFull 8 = .ok (.arraylength, 1) := by decide +kernel
theorem dX6_isFull_9 : decode cX6_isFull 9 = .ok (.if_icmp .lt 7, 3) := by decide +kernel
theorem dX6_isFull_12 : decode cX6_isFull 12 = .ok (.iconst 1, 1) := by decide +kernel
theorem dX6_isFull_13 : decode cX6_isFull 13 = .ok (.goto 4, 3) := by decide +kernel
theorem dX6_isFull_16 : decode cX6_isFull 16 = .ok (.iconst 0, 1) := by decide +kernel
theorem dX6_isFull_17 : decode cX6_isFull 17 = .ok (.ireturn, 1) := by decide +kernel
def fn_X6_isFull (N : Nat) (M : Mem) (a0 : Nat) : Option (Int32 × Mem) :=
  (mm_gI M a0 6 1).bind fun v1 =>
  (mm_gR M a0 6 0).bind fun a2 =>
  (mm_aN M a2).bind fun v3 =>
  if v1 < v3 then
    some (0, M)
  else
    some (1, M)
set_option maxRecDepth 100000 in
set_option maxHeartbeats 4000000 in
theorem ct_X6_isFull {l : Launch} {ω : Wd} {k N : Nat} {M : Mem} {a0 : Nat} {r : Int32} {M' : Mem} (h : fn_X6_isFull N M a0 = some (r, M')) : CM l ω k yX6_isFull cX6_isFull 1 (some .boolean) 0 0 0 [.ref a0] M (some (.int r)) M' := by
  refine CM.of (by decide) (Nat.le_of_ble_eq_true rfl) fun Γ hl C hr hi => ?_
  subst hl
  unfold fn_X6_isFull at h
  refine jv_aload_n C dX6_isFull_0 rfl 0 rfl ?_
  refine jv_getI C fa_X6_21 dX6_isFull_1 h (fun v1 h => ?_)
  refine jv_aload_n C dX6_isFull_4 rfl 0 rfl ?_
  refine jv_getR C fa_X6_15 dX6_isFull_5 h (fun a2 h => ?_)
  refine jv_alen C dX6_isFull_8 h (fun v3 h => ?_)
  refine jv_icmp_lt (tgt := 16) C dX6_isFull_9 (by decide) h (fun h => ?_) (fun h => ?_)
  · refine jv_iconst (v := 0) C dX6_isFull_16 (by decide) ?_
    exact jv_zretc C hr (Or.inl rfl) dX6_isFull_17 h
  · refine jv_iconst (v := 1) C dX6_isFull_12 (by decide) ?_
    refine jv_goto (tgt := 17) C dX6_isFull_13 (by decide) ?_
    exact jv_zretc C hr (Or.inr rfl) dX6_isFull_17 h
theorem dX6_add_0 : decode cX6_add 0 = .ok (.aload_n 0, 1) := by decide +kernel
theorem dX6_add_1 : decode cX6_add 1 = .ok (.getfield 21, 3) := by decide +kernel
theorem dX6_add_4 : decode cX6_add 4 = .ok (.ifCond .lt 35, 3) := by decide +kernel
theorem dX6_add_7 : decode cX6_add 7 = .ok (.aload_n 0, 1) := by decide +kernel
theorem dX6_add_8 : decode cX6_add 8 = .ok (.getfield 21, 3) := by decide +kernel
theorem dX6_add_11 : decode cX6_add 11 = .ok (.aload_n 0, 1) := by decide +kernel
theorem dX6_add_12 : decode cX6_add 12 = .ok (.getfield 15, 3) := by decide +kernel
theorem dX6_add_15 : decode cX6_add 15 = .ok (.arraylength, 1) := by decide +kernel
theorem dX6_add_16 : decode cX6_add 16 = .ok (.if_icmp .ge 23, 3) := by decide +kernel
theorem dX6_add_19 : decode cX6_add 19 = .ok (.aload_n 0, 1) := by decide +kernel
theorem dX6_add_20 : decode cX6_add 20 = .ok (.getfield 15, 3) := by decide +kernel
theorem dX6_add_23 : decode cX6_add 23 = .ok (.aload_n 0, 1) := by decide +kernel
theorem dX6_add_24 : decode cX6_add 24 = .ok (.getfield 21, 3) := by decide +kernel
theorem dX6_add_27 : decode cX6_add 27 = .ok (.iload_n 1, 1) := by decide +kernel
theorem dX6_add_28 : decode cX6_add 28 = .ok (.iastore, 1) := by decide +kernel
theorem dX6_add_29 : decode cX6_add 29 = .ok (.aload_n 0, 1) := by decide +kernel
theorem dX6_add_30 : decode cX6_add 30 = .ok (.dup, 1) := by decide +kernel
theorem dX6_add_31 : decode cX6_add 31 = .ok (.getfield 21, 3) := by decide +kernel
theorem dX6_add_34 : decode cX6_add 34 = .ok (.iconst 1, 1) := by decide +kernel
theorem dX6_add_35 : decode cX6_add 35 = .ok (.iadd, 1) := by decide +kernel
theorem dX6_add_36 : decode cX6_add 36 = .ok (.putfield 21, 3) := by decide +kernel
theorem dX6_add_39 : decode cX6_add 39 = .ok (.return_, 1) := by decide +kernel
def fn_X6_add (N : Nat) (M : Mem) (a0 : Nat) (x1 : Int32) : Option (Unit × Mem) :=
  (mm_gI M a0 6 1).bind fun v1 =>
  if v1 < 0 then
    some ((), M)
  else
    (mm_gI M a0 6 1).bind fun v2 =>
    (mm_gR M a0 6 0).bind fun a3 =>
    (mm_aN M a3).bind fun v4 =>
    if v4 ≤ v2 then
      some ((), M)
    else
      (mm_gR M a0 6 0).bind fun a5 =>
      (mm_gI M a0 6 1).bind fun v6 =>
      (mm_sI M a5 0 v6 x1).bind fun M7 =>
      (mm_gI M7 a0 6 1).bind fun v8 =>
      (mm_pV M7 a0 6 1 (.int (v8 + 1))).bind fun M9 =>
      some ((), M9)
set_option maxRecDepth 100000 in
set_option maxHeartbeats 4000000 in
theorem ct_X6_add {l : Launch} {ω : Wd} {k N : Nat} {M : Mem} {a0 : Nat} {x1 : Int32} {r : Unit} {M' : Mem} (h : fn_X6_add N M a0 x1 = some (r, M')) : CM l ω k yX6_add cX6_add 2 none 0 0 0 [.ref a0, .int x1] M none M' := by
  refine CM.of (by decide) (Nat.le_of_ble_eq_true rfl) fun Γ hl C hr hi => ?_
  subst hl
  unfold fn_X6_add at h
  refine jv_aload_n C dX6_add_0 rfl 0 rfl ?_
  refine jv_getI C fa_X6_21 dX6_add_1 h (fun v1 h => ?_)
  refine jv_if_lt (tgt := 39) C dX6_add_4 (by decide) h (fun h => ?_) (fun h => ?_)
  · exact jv_vret C hr dX6_add_39 h
  · refine jv_aload_n C dX6_add_7 rfl 0 rfl ?_
    refine jv_getI C fa_X6_21 dX6_add_8 h (fun v2 h => ?_)
    refine jv_aload_n C dX6_add_11 rfl 0 rfl ?_
    refine jv_getR C fa_X6_15 dX6_add_12 h (fun a3 h => ?_)
    refine jv_alen C dX6_add_15 h (fun v4 h => ?_)
    refine jv_icmp_ge (tgt := 39) C dX6_add_16 (by decide) h (fun h => ?_) (fun h => ?_)
    · exact jv_vret C hr dX6_add_39 h
    · refine jv_aload_n C dX6_add_19 rfl 0 rfl ?_
      refine jv_getR C fa_X6_15 dX6_add_20 h (fun a5 h => ?_)
      refine jv_aload_n C dX6_add_23 rfl 0 rfl ?_
      refine jv_getI C fa_X6_21 dX6_add_24 h (fun v6 h => ?_)
      refine jv_iload_n C dX6_add_27 rfl 1 rfl ?_
      refine jv_iast C dX6_add_28 h (fun M7 h => ?_)
      refine jv_aload_n C dX6_add_29 rfl 0 rfl ?_
      refine jv_dup C dX6_add_30 rfl ?_
      refine jv_getI C fa_X6_21 dX6_add_31 h (fun v8 h => ?_)
      refine jv_iconst (v := 1) C dX6_add_34 (by decide) ?_
      refine jv_iadd C dX6_add_35 ?_
      refine jv_putI C fp_X6_21 dX6_add_36 h (fun M9 h => ?_)
      exact jv_vret C hr dX6_add_39 h
theorem dX6_has_0 : decode cX6_has 0 = .ok (.iload_n 1, 1) := by decide +kernel
theorem dX6_has_1 : decode cX6_has 1 = .ok (.ifCond .lt 24, 3) := by decide +kernel
theorem dX6_has_4 : decode cX6_has 4 = .ok (.iload_n 1, 1) := by decide +kernel
theorem dX6_has_5 : decode cX6_has 5 = .ok (.aload_n 0, 1) := by decide +kernel
theorem dX6_has_6 : decode cX6_has 6 = .ok (.getfield 21, 3) := by decide +kernel
theorem dX6_has_9 : decode cX6_has 9 = .ok (.if_icmp .ge 16, 3) := by decide +kernel
theorem dX6_has_12 : decode cX6_has 12 = .ok (.iload_n 1, 1) := by decide +kernel
theorem dX6_has_13 : decode cX6_has 13 = .ok (.aload_n 0, 1) := by decide +kernel
theorem dX6_has_14 : decode cX6_has 14 = .ok (.getfield 15, 3) := by decide +kernel
theorem dX6_has_17 : decode cX6_has 17 = .ok (.arraylength, 1) := by decide +kernel
theorem dX6_has_18 : decode cX6_has 18 = .ok (.if_icmp .ge 7, 3) := by decide +kernel
theorem dX6_has_21 : decode cX6_has 21 = .ok (.iconst 1, 1) := by decide +kernel
theorem dX6_has_22 : decode cX6_has 22 = .ok (.goto 4, 3) := by decide +kernel
theorem dX6_has_25 : decode cX6_has 25 = .ok (.iconst 0, 1) := by decide +kernel
theorem dX6_has_26 : decode cX6_has 26 = .ok (.ireturn, 1) := by decide +kernel
def fn_X6_has (N : Nat) (M : Mem) (a0 : Nat) (x1 : Int32) : Option (Int32 × Mem) :=
  if x1 < 0 then
    some (0, M)
  else
    (mm_gI M a0 6 1).bind fun v1 =>
    if v1 ≤ x1 then
      some (0, M)
    else
      (mm_gR M a0 6 0).bind fun a2 =>
      (mm_aN M a2).bind fun v3 =>
      if v3 ≤ x1 then
        some (0, M)
      else
        some (1, M)
set_option maxRecDepth 100000 in
set_option maxHeartbeats 4000000 in
theorem ct_X6_has {l : Launch} {ω : Wd} {k N : Nat} {M : Mem} {a0 : Nat} {x1 : Int32} {r : Int32} {M' : Mem} (h : fn_X6_has N M a0 x1 = some (r, M')) : CM l ω k yX6_has cX6_has 2 (some .boolean) 0 0 0 [.ref a0, .int x1] M (some (.int r)) M' := by
  refine CM.of (by decide) (Nat.le_of_ble_eq_true rfl) fun Γ hl C hr hi => ?_
  subst hl
  unfold fn_X6_has at h
  refine jv_iload_n C dX6_has_0 rfl 1 rfl ?_
  refine jv_if_lt (tgt := 25) C dX6_has_1 (by decide) h (fun h => ?_) (fun h => ?_)
  · refine jv_iconst (v := 0) C dX6_has_25 (by decide) ?_
    exact jv_zretc C hr (Or.inl rfl) dX6_has_26 h
  · refine jv_iload_n C dX6_has_4 rfl 1 rfl ?_
    refine jv_aload_n C dX6_has_5 rfl 0 rfl ?_
    refine jv_getI C fa_X6_21 dX6_has_6 h (fun v1 h => ?_)
    refine jv_icmp_ge (tgt := 25) C dX6_has_9 (by decide) h (fun h => ?_) (fun h => ?_)
    · refine jv_iconst (v := 0) C dX6_has_25 (by decide) ?_
      exact jv_zretc C hr (Or.inl rfl) dX6_has_26 h
    · refine jv_iload_n C dX6_has_12 rfl 1 rfl ?_
      refine jv_aload_n C dX6_has_13 rfl 0 rfl ?_
      refine jv_getR C fa_X6_15 dX6_has_14 h (fun a2 h => ?_)
      refine jv_alen C dX6_has_17 h (fun v3 h => ?_)
      refine jv_icmp_ge (tgt := 25) C dX6_has_18 (by decide) h (fun h => ?_) (fun h => ?_)
      · refine jv_iconst (v := 0) C dX6_has_25 (by decide) ?_
        exact jv_zretc C hr (Or.inl rfl) dX6_has_26 h
      · refine jv_iconst (v := 1) C dX6_has_21 (by decide) ?_
        refine jv_goto (tgt := 26) C dX6_has_22 (by decide) ?_
        exact jv_zretc C hr (Or.inr rfl) dX6_has_26 h
theorem dX6_increase_0 : decode cX6_increase 0 = .ok (.aload_n 0, 1) := by decide +kernel
theorem dX6_increase_1 : decode cX6_increase 1 = .ok (.iload_n 1, 1) := by decide +kernel
theorem dX6_increase_2 : decode cX6_increase 2 = .ok (.invokevirtual 25, 3) := by decide +kernel
theorem dX6_increase_5 : decode cX6_increase 5 = .ok (.ifCond .eq 13, 3) := by decide +kernel
theorem dX6_increase_8 : decode cX6_increase 8 = .ok (.aload_n 0, 1) := by decide +kernel
theorem dX6_increase_9 : decode cX6_increase 9 = .ok (.getfield 15, 3) := by decide +kernel
theorem dX6_increase_12 : decode cX6_increase 12 = .ok (.iload_n 1, 1) := by decide +kernel
theorem dX6_increase_13 : decode cX6_increase 13 = .ok (.dup2, 1) := by decide +kernel
theorem dX6_increase_14 : decode cX6_increase 14 = .ok (.iaload, 1) := by decide +kernel
theorem dX6_increase_15 : decode cX6_increase 15 = .ok (.iload_n 2, 1) := by decide +kernel
theorem dX6_increase_16 : decode cX6_increase 16 = .ok (.iadd, 1) := by decide +kernel
theorem dX6_increase_17 : decode cX6_increase 17 = .ok (.iastore, 1) := by decide +kernel
theorem dX6_increase_18 : decode cX6_increase 18 = .ok (.return_, 1) := by decide +kernel
def fn_X6_increase (N : Nat) (M : Mem) (a0 : Nat) (x1 : Int32) (x2 : Int32) : Option (Unit × Mem) :=
  (mm_ck M a0 6).bind fun _ => mm_b2 (fn_X6_has N M a0 x1) fun v2 M1 =>
  if v2 = 0 then
    some ((), M1)
  else
    (mm_gR M1 a0 6 0).bind fun a3 =>
    (mm_aI M1 a3 0 x1).bind fun v4 =>
    (mm_sI M1 a3 0 x1 (v4 + x2)).bind fun M5 =>
    some ((), M5)
set_option maxRecDepth 100000 in
set_option maxHeartbeats 4000000 in
theorem ct_X6_increase {l : Launch} {ω : Wd} {k N : Nat} {M : Mem} {a0 : Nat} {x1 : Int32} {x2 : Int32} {r : Unit} {M' : Mem} (h : fn_X6_increase N M a0 x1 x2 = some (r, M')) : CM l ω k yX6_increase cX6_increase 3 none 1 0 0 [.ref a0, .int x1, .int x2] M none M' := by
  refine CM.of (by decide) (Nat.le_of_ble_eq_true rfl) fun Γ hl C hr hi => ?_
  subst hl
  unfold fn_X6_increase at h
  refine jv_aload_n C dX6_increase_0 rfl 0 rfl ?_
  refine jv_iload_n C dX6_increase_1 rfl 1 rfl ?_
  refine jv_vI0 (As := [.int x1]) C lk_X6_25 rfl dX6_increase_2 rfl rfl (by decide) (by decide) (by decide) (Nat.le_of_ble_eq_true rfl) h (fun _ _ h => ct_X6_has h) (fun v2 M1 h => ?_)
  refine jv_if_eq (tgt := 18) C dX6_increase_5 (by decide) h (fun h => ?_) (fun h => ?_)
  · exact jv_vret C hr dX6_increase_18 h
  · refine jv_aload_n C dX6_increase_8 rfl 0 rfl ?_
    refine jv_getR C fa_X6_15 dX6_increase_9 h (fun a3 h => ?_)
    refine jv_iload_n C dX6_increase_12 rfl 1 rfl ?_
    refine jv_dup2 C dX6_increase_13 rfl rfl ?_
    refine jv_iald C dX6_increase_14 h (fun v4 h => ?_)
    refine jv_iload_n C dX6_increase_15 rfl 2 rfl ?_
    refine jv_iadd C dX6_increase_16 ?_
    refine jv_iast C dX6_increase_17 h (fun M5 h => ?_)
    exact jv_vret C hr dX6_increase_18 h
theorem dX6_put_0 : decode cX6_put 0 = .ok (.aload_n 0, 1) := by decide +kernel
theorem dX6_put_1 : decode cX6_put 1 = .ok (.iload_n 1, 1) := by decide +kernel
theorem dX6_put_2 : decode cX6_put 2 = .ok (.invokevirtual 25, 3) := by decide +kernel
theorem dX6_put_5 : decode cX6_put 5 = .ok (.ifCond .eq 10, 3) := by decide +kernel
theorem dX6_put_8 : decode cX6_put 8 = .ok (.aload_n 0, 1) := by decide +kernel
theorem dX6_put_9 : decode cX6_put 9 = .ok (.getfield 15, 3) := by decide +kernel
theorem dX6_put_12 : decode cX6_put 12 = .ok (.iload_n 1, 1) := by decide +kernel
theorem dX6_put_13 : decode cX6_put 13 = .ok (.iload_n 2, 1) := by decide +kernel
theorem dX6_put_14 : decode cX6_put 14 = .ok (.iastore, 1) := by decide +kernel
theorem dX6_put_15 : decode cX6_put 15 = .ok (.return_, 1) := by decide +kernel
def fn_X6_put (N : Nat) (M : Mem) (a0 : Nat) (x1 : Int32) (x2 : Int32) : Option (Unit × Mem) :=
  (mm_ck M a0 6).bind fun _ => mm_b2 (fn_X6_has N M a0 x1) fun v2 M1 =>
  if v2 = 0 then
    some ((), M1)
  else
    (mm_gR M1 a0 6 0).bind fun a3 =>
    (mm_sI M1 a3 0 x1 x2).bind fun M4 =>
    some ((), M4)
set_option maxRecDepth 100000 in
set_option maxHeartbeats 4000000 in
theorem ct_X6_put {l : Launch} {ω : Wd} {k N : Nat} {M : Mem} {a0 : Nat} {x1 : Int32} {x2 : Int32} {r : Unit} {M' : Mem} (h : fn_X6_put N M a0 x1 x2 = some (r, M')) : CM l ω k yX6_put cX6_put 3 none 1 0 0 [.ref a0, .int x1, .int x2] M none M' := by
  refine CM.of (by decide) (Nat.le_of_ble_eq_true rfl) fun Γ hl C hr hi => ?_
  subst hl
  unfold fn_X6_put at h
  refine jv_aload_n C dX6_put_0 rfl 0 rfl ?_
  refine jv_iload_n C dX6_put_1 rfl 1 rfl ?_
  refine jv_vI0 (As := [.int x1]) C lk_X6_25 rfl dX6_put_2 rfl rfl (by decide) (by decide) (by decide) (Nat.le_of_ble_eq_true rfl) h (fun _ _ h => ct_X6_has h) (fun v2 M1 h => ?_)
  refine jv_if_eq (tgt := 15) C dX6_put_5 (by decide) h (fun h => ?_) (fun h => ?_)
  · exact jv_vret C hr dX6_put_15 h
  · refine jv_aload_n C dX6_put_8 rfl 0 rfl ?_
    refine jv_getR C fa_X6_15 dX6_put_9 h (fun a3 h => ?_)
    refine jv_iload_n C dX6_put_12 rfl 1 rfl ?_
    refine jv_iload_n C dX6_put_13 rfl 2 rfl ?_
    refine jv_iast C dX6_put_14 h (fun M4 h => ?_)
    exact jv_vret C hr dX6_put_15 h
theorem dX6_removeAt_0 : decode cX6_removeAt 0 = .ok (.aload_n 0, 1) := by decide +kernel
theorem dX6_removeAt_1 : decode cX6_removeAt 1 = .ok (.iload_n 1, 1) := by decide +kernel
theorem dX6_removeAt_2 : decode cX6_removeAt 2 = .ok (.invokevirtual 25, 3) := by decide +kernel
theorem dX6_removeAt_5 : decode cX6_removeAt 5 = .ok (.ifCond .ne 5, 3) := by decide +kernel
theorem dX6_removeAt_8 : decode cX6_removeAt 8 = .ok (.iconst (-1), 1) := by decide +kernel
theorem dX6_removeAt_9 : decode cX6_removeAt 9 = .ok (.ireturn, 1) := by decide +kernel
theorem dX6_removeAt_10 : decode cX6_removeAt 10 = .ok (.aload_n 0, 1) := by decide +kernel
theorem dX6_removeAt_11 : decode cX6_removeAt 11 = .ok (.getfield 15, 3) := by decide +kernel
theorem dX6_removeAt_14 : decode cX6_removeAt 14 = .ok (.iload_n 1, 1) := by decide +kernel
theorem dX6_removeAt_15 : decode cX6_removeAt 15 = .ok (.iaload, 1) := by decide +kernel
theorem dX6_removeAt_16 : decode cX6_removeAt 16 = .ok (.istore_n 2, 1) := by decide +kernel
theorem dX6_removeAt_17 : decode cX6_removeAt 17 = .ok (.iload_n 1, 1) := by decide +kernel
theorem dX6_removeAt_18 : decode cX6_removeAt 18 = .ok (.iconst 1, 1) := by decide +kernel
theorem dX6_removeAt_19 : decode cX6_removeAt 19 = .ok (.iadd, 1) := by decide +kernel
theorem dX6_removeAt_20 : decode cX6_removeAt 20 = .ok (.istore_n 3, 1) := by decide +kernel
theorem dX6_removeAt_21 : decode cX6_removeAt 21 = .ok (.iload_n 3, 1) := by decide +kernel
theorem dX6_removeAt_22 : decode cX6_removeAt 22 = .ok (.aload_n 0, 1) := by decide +kernel
theorem dX6_removeAt_23 : decode cX6_removeAt 23 = .ok (.getfield 21, 3) := by decide +kernel
theorem dX6_removeAt_26 : decode cX6_removeAt 26 = .ok (.if_icmp .ge 32, 3) := by decide +kernel
theorem dX6_removeAt_29 : decode cX6_removeAt 29 = .ok (.iload_n 3, 1) := by decide +kernel
theorem dX6_removeAt_30 : decode cX6_removeAt 30 = .ok (.aload_n 0, 1) := by decide +kernel
theorem dX6_removeAt_31 : decode cX6_removeAt 31 = .ok (.getfield 15, 3) := by decide +kernel
theorem dX6_removeAt_34 : decode cX6_removeAt 34 = .ok (.arraylength, 1) := by decide +kernel
theorem dX6_removeAt_35 : decode cX6_removeAt 35 = .ok (.if_icmp .ge 23, 3) := by decide +kernel
theorem dX6_removeAt_38 : decode cX6_removeAt 38 = .ok (.aload_n 0, 1) := by decide +kernel
theorem dX6_removeAt_39 : decode cX6_removeAt 39 = .ok (.getfield 15, 3) := by decide +kernel
theorem dX6_removeAt_42 : decode cX6_removeAt 42 = .ok (.iload_n 3, 1) := by decide +kernel
theorem dX6_removeAt_43 : decode cX6_removeAt 43 = .ok (.iconst 1, 1) := by decide +kernel
theorem dX6_removeAt_44 : decode cX6_removeAt 44 = .ok (.isub, 1) := by decide +kernel
theorem dX6_removeAt_45 : decode cX6_removeAt 45 = .ok (.aload_n 0, 1) := by decide +kernel
theorem dX6_removeAt_46 : decode cX6_removeAt 46 = .ok (.getfield 15, 3) := by decide +kernel
theorem dX6_removeAt_49 : decode cX6_removeAt 49 = .ok (.iload_n 3, 1) := by decide +kernel
theorem dX6_removeAt_50 : decode cX6_removeAt 50 = .ok (.iaload, 1) := by decide +kernel
theorem dX6_removeAt_51 : decode cX6_removeAt 51 = .ok (.iastore, 1) := by decide +kernel
theorem dX6_removeAt_52 : decode cX6_removeAt 52 = .ok (.iinc 3 1, 3) := by decide +kernel
theorem dX6_removeAt_55 : decode cX6_removeAt 55 = .ok (.goto (-34), 3) := by decide +kernel
theorem dX6_removeAt_58 : decode cX6_removeAt 58 = .ok (.aload_n 0, 1) := by decide +kernel
theorem dX6_removeAt_59 : decode cX6_removeAt 59 = .ok (.dup, 1) := by decide +kernel
theorem dX6_removeAt_60 : decode cX6_removeAt 60 = .ok (.getfield 21, 3) := by decide +kernel
theorem dX6_removeAt_63 : decode cX6_removeAt 63 = .ok (.iconst 1, 1) := by decide +kernel
theorem dX6_removeAt_64 : decode cX6_removeAt 64 = .ok (.isub, 1) := by decide +kernel
theorem dX6_removeAt_65 : decode cX6_removeAt 65 = .ok (.putfield 21, 3) := by decide +kernel
theorem dX6_removeAt_68 : decode cX6_removeAt 68 = .ok (.iload_n 2, 1) := by decide +kernel
theorem dX6_removeAt_69 : decode cX6_removeAt 69 = .ok (.ireturn, 1) := by decide +kernel
def fn_X6_removeAt_58 (N : Nat) (M : Mem) (a0 : Nat) (x2 : Int32) : Option (Int32 × Mem) :=
  (mm_gI M a0 6 1).bind fun v1 =>
  (mm_pV M a0 6 1 (.int (v1 - 1))).bind fun M2 =>
  some (x2, M2)
set_option maxRecDepth 100000 in
set_option maxHeartbeats 4000000 in
theorem bk_X6_removeAt_58 {Γ : Gm} {ω : Wd} {k N : Nat} {r : Int32} {M' : Mem} (C : Cx Γ cX6_removeAt 4 RX6 ω 1 0 0) (hr : Γ.meth.sig.returnType = (some .int)) (M : Mem) (a0 : Nat) (x2 : Int32) (h : fn_X6_removeAt_58 N M a0 x2 = some (r, M')) : JJ Γ (QF Γ ω k 0 0 (some (.int r)) M') 4 ω k M 0 0 58 [(0, .ref a0), (2, .int x2)] [] := by
  unfold fn_X6_removeAt_58 at h
  refine jv_aload_n C dX6_removeAt_58 rfl 0 rfl ?_
  refine jv_dup C dX6_removeAt_59 rfl ?_
  refine jv_getI C fa_X6_21 dX6_removeAt_60 h (fun v1 h => ?_)
  refine jv_iconst (v := 1) C dX6_removeAt_63 (by decide) ?_
  refine jv_isub C dX6_removeAt_64 ?_
  refine jv_putI C fp_X6_21 dX6_removeAt_65 h (fun M2 h => ?_)
  refine jv_iload_n C dX6_removeAt_68 rfl 1 rfl ?_
  exact jv_iret C hr dX6_removeAt_69 h
def fn_X6_removeAt_21 (N : Nat) : Nat → Mem → Nat → Int32 → Int32 → Option (Int32 × Mem)
  | 0, _, _, _, _ => none
  | n + 1, M, a0, x2, x3 =>
    (mm_gI M a0 6 1).bind fun v1 =>
    if v1 ≤ x3 then
      fn_X6_removeAt_58 N M a0 x2
    else
      (mm_gR M a0 6 0).bind fun a2 =>
      (mm_aN M a2).bind fun v3 =>
      if v3 ≤ x3 then
        fn_X6_removeAt_58 N M a0 x2
      else
        (mm_gR M a0 6 0).bind fun a4 =>
        (mm_gR M a0 6 0).bind fun a5 =>
        (mm_aI M a5 0 x3).bind fun v6 =>
        (mm_sI M a4 0 (x3 - 1) v6).bind fun M7 =>
        fn_X6_removeAt_21 N n M7 a0 x2 ((x3 + 1))
set_option maxRecDepth 100000 in
set_option maxHeartbeats 4000000 in
theorem bk_X6_removeAt_21 {Γ : Gm} {ω : Wd} {k N : Nat} {r : Int32} {M' : Mem} (C : Cx Γ cX6_removeAt 4 RX6 ω 1 0 0) (hr : Γ.meth.sig.returnType = (some .int)) : ∀ (n : Nat) (M : Mem) (a0 : Nat) (x2 : Int32) (x3 : Int32), fn_X6_removeAt_21 N n M a0 x2 x3 = some (r, M') → JJ Γ (QF Γ ω k 0 0 (some (.int r)) M') 4 ω k M 0 0 21 [(0, .ref a0), (2, .int x2), (3, .int x3)] [] := by
  intro n
  induction n with
  | zero => intro M a0 x2 x3 h; exact jv_no h
  | succ n ih =>
    intro M a0 x2 x3 h
    rw [fn_X6_removeAt_21.eq_2] at h
    refine jv_iload_n C dX6_removeAt_21 rfl 2 rfl ?_
    refine jv_aload_n C dX6_removeAt_22 rfl 0 rfl ?_
    refine jv_getI C fa_X6_21 dX6_removeAt_23 h (fun v1 h => ?_)
    refine jv_icmp_ge (tgt := 58) C dX6_removeAt_26 (by decide) h (fun h => ?_) (fun h => ?_)
    · refine jv_sub [0, 1] rfl ?_
      exact bk_X6_removeAt_58 C hr _ _ _ h
    · refine jv_iload_n C dX6_removeAt_29 rfl 2 rfl ?_
      refine jv_aload_n C dX6_removeAt_30 rfl 0 rfl ?_
      refine jv_getR C fa_X6_15 dX6_removeAt_31 h (fun a2 h => ?_)
      refine jv_alen C dX6_removeAt_34 h (fun v3 h => ?_)
      refine jv_icmp_ge (tgt := 58) C dX6_removeAt_35 (by decide) h (fun h => ?_) (fun h => ?_)
      · refine jv_sub [0, 1] rfl ?_
        exact bk_X6_removeAt_58 C hr _ _ _ h
      · refine jv_aload_n C dX6_removeAt_38 rfl 0 rfl ?_
        refine jv_getR C fa_X6_15 dX6_removeAt_39 h (fun a4 h => ?_)
        refine jv_iload_n C dX6_removeAt_42 rfl 2 rfl ?_
        refine jv_iconst (v := 1) C dX6_removeAt_43 (by decide) ?_
        refine jv_isub C dX6_removeAt_44 ?_
        refine jv_aload_n C dX6_removeAt_45 rfl 0 rfl ?_
        refine jv_getR C fa_X6_15 dX6_removeAt_46 h (fun a5 h => ?_)
        refine jv_iload_n C dX6_removeAt_49 rfl 2 rfl ?_
        refine jv_iald C dX6_removeAt_50 h (fun v6 h => ?_)
        refine jv_iast C dX6_removeAt_51 h (fun M7 h => ?_)
        refine jv_iinc (v := 1) (lv' := [(3, .int (x3 + 1)), (0, .ref a0), (2, .int x2)]) C dX6_removeAt_52 2 rfl (by decide) (by decide) rfl ?_
        refine jv_goto (tgt := 21) C dX6_removeAt_55 (by decide) ?_
        refine jv_sub [1, 2, 0] rfl ?_
        exact ih _ _ _ _ h
def fn_X6_removeAt (N : Nat) (M : Mem) (a0 : Nat) (x1 : Int32) : Option (Int32 × Mem) :=
  (mm_ck M a0 6).bind fun _ => mm_b2 (fn_X6_has N M a0 x1) fun v2 M1 =>
  if v2 = 0 then
    some ((-1), M1)
  else
    (mm_gR M1 a0 6 0).bind fun a3 =>
    (mm_aI M1 a3 0 x1).bind fun v4 =>
    fn_X6_removeAt_21 N N M1 a0 v4 ((x1 + 1))
set_option maxRecDepth 100000 in
set_option maxHeartbeats 4000000 in
theorem ct_X6_removeAt {l : Launch} {ω : Wd} {k N : Nat} {M : Mem} {a0 : Nat} {x1 : Int32} {r : Int32} {M' : Mem} (h : fn_X6_removeAt N M a0 x1 = some (r, M')) : CM l ω k yX6_removeAt cX6_removeAt 4 (some .int) 1 0 0 [.ref a0, .int x1] M (some (.int r)) M' := by
  refine CM.of (by decide) (Nat.le_of_ble_eq_true rfl) fun Γ hl C hr hi => ?_
  subst hl
  unfold fn_X6_removeAt at h
  refine jv_aload_n C dX6_removeAt_0 rfl 0 rfl ?_
  refine jv_iload_n C dX6_removeAt_1 rfl 1 rfl ?_
  refine jv_vI0 (As := [.int x1]) C lk_X6_25 rfl dX6_removeAt_2 rfl rfl (by decide) (by decide) (by decide) (Nat.le_of_ble_eq_true rfl) h (fun _ _ h => ct_X6_has h) (fun v2 M1 h => ?_)
  refine jv_if_ne (tgt := 10) C dX6_removeAt_5 (by decide) h (fun h => ?_) (fun h => ?_)
  · refine jv_aload_n C dX6_removeAt_10 rfl 0 rfl ?_
    refine jv_getR C fa_X6_15 dX6_removeAt_11 h (fun a3 h => ?_)
    refine jv_iload_n C dX6_removeAt_14 rfl 1 rfl ?_
    refine jv_iald C dX6_removeAt_15 h (fun v4 h => ?_)
    refine jv_istore_n (lv' := [(2, .int v4), (0, .ref a0), (1, .int x1)]) C dX6_removeAt_16 rfl (by decide) rfl ?_
    refine jv_iload_n C dX6_removeAt_17 rfl 2 rfl ?_
    refine jv_iconst (v := 1) C dX6_removeAt_18 (by decide) ?_
    refine jv_iadd C dX6_removeAt_19 ?_
    refine jv_istore_n (lv' := [(3, .int (x1 + 1)), (2, .int v4), (0, .ref a0), (1, .int x1)]) C dX6_removeAt_20 rfl (by decide) rfl ?_
    refine jv_sub [2, 1, 0] rfl ?_
    exact bk_X6_removeAt_21 C hr _ _ _ _ _ h
  · refine jv_iconst (v := (-1)) C dX6_removeAt_8 (by decide) ?_
    exact jv_iret C hr dX6_removeAt_9 h
end
