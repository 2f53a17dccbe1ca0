section
-- ===== PART A: goes FIRST, ahead of the names: the tables' words, and 'selects' of the private methods out of them =====
/-- a private method of a class that the tables say can be made, by its rows of tables_1 -/
def lw_okq (q : MethodName × Nat) : Prop := (q.1.cls ≠ "java/lang/invoke/MethodHandle" ∧ q.1.cls ≠ "java/lang/invoke/VarHandle") ∧ Cond.instantiable q.1.cls q.2 ∈ tables_1 ∧ Cond.privateMethod q.1 ∈ tables_1 ∧ Cond.instanceMethod q.1 ∈ tables_1
theorem lw_p0 : lw_okq (⟨"CoinSorter$Row", "fillWithZeros", "(I)V"⟩, 2) := ⟨⟨by decide +kernel, by decide +kernel⟩, List.mem_of_getElem? (i := 88) (by decide +kernel), List.mem_of_getElem? (i := 184) (by decide +kernel), List.mem_of_getElem? (i := 185) (by decide +kernel)⟩
theorem lw_p1 : lw_okq (⟨"java/lang/Throwable", "fillInStackTrace", "(I)Ljava/lang/Throwable;"⟩, 6) := ⟨⟨by decide +kernel, by decide +kernel⟩, List.mem_of_getElem? (i := 236) (by decide +kernel), List.mem_of_getElem? (i := 234) (by decide +kernel), List.mem_of_getElem? (i := 235) (by decide +kernel)⟩
theorem lw_p2 : lw_okq (⟨"CoinSorter", "appendWord", "(I)V"⟩, 12) := ⟨⟨by decide +kernel, by decide +kernel⟩, List.mem_of_getElem? (i := 32) (by decide +kernel), List.mem_of_getElem? (i := 704) (by decide +kernel), List.mem_of_getElem? (i := 705) (by decide +kernel)⟩
theorem lw_p3 : lw_okq (⟨"CoinSorter$Config", "reset", "()V"⟩, 7) := ⟨⟨by decide +kernel, by decide +kernel⟩, List.mem_of_getElem? (i := 76) (by decide +kernel), List.mem_of_getElem? (i := 712) (by decide +kernel), List.mem_of_getElem? (i := 713) (by decide +kernel)⟩
theorem lw_p4 : lw_okq (⟨"CoinSorter$Kinds", "empty", "()V"⟩, 5) := ⟨⟨by decide +kernel, by decide +kernel⟩, List.mem_of_getElem? (i := 82) (by decide +kernel), List.mem_of_getElem? (i := 716) (by decide +kernel), List.mem_of_getElem? (i := 717) (by decide +kernel)⟩
theorem lw_p5 : lw_okq (⟨"CoinSorter$Row", "empty", "()V"⟩, 2) := ⟨⟨by decide +kernel, by decide +kernel⟩, List.mem_of_getElem? (i := 88) (by decide +kernel), List.mem_of_getElem? (i := 720) (by decide +kernel), List.mem_of_getElem? (i := 721) (by decide +kernel)⟩
theorem lw_p6 : lw_okq (⟨"CoinSorter$Parser", "begin", "([BI)V"⟩, 9) := ⟨⟨by decide +kernel, by decide +kernel⟩, List.mem_of_getElem? (i := 40) (by decide +kernel), List.mem_of_getElem? (i := 725) (by decide +kernel), List.mem_of_getElem? (i := 726) (by decide +kernel)⟩
theorem lw_p7 : lw_okq (⟨"CoinSorter$Parser", "hasStatement", "()Z"⟩, 9) := ⟨⟨by decide +kernel, by decide +kernel⟩, List.mem_of_getElem? (i := 40) (by decide +kernel), List.mem_of_getElem? (i := 729) (by decide +kernel), List.mem_of_getElem? (i := 730) (by decide +kernel)⟩
theorem lw_p8 : lw_okq (⟨"CoinSorter$Parser", "readToken", "()V"⟩, 9) := ⟨⟨by decide +kernel, by decide +kernel⟩, List.mem_of_getElem? (i := 40) (by decide +kernel), List.mem_of_getElem? (i := 733) (by decide +kernel), List.mem_of_getElem? (i := 734) (by decide +kernel)⟩
theorem lw_p9 : lw_okq (⟨"CoinSorter$Parser", "endOfRun", "(II)I"⟩, 9) := ⟨⟨by decide +kernel, by decide +kernel⟩, List.mem_of_getElem? (i := 40) (by decide +kernel), List.mem_of_getElem? (i := 737) (by decide +kernel), List.mem_of_getElem? (i := 738) (by decide +kernel)⟩
theorem lw_p10 : lw_okq (⟨"CoinSorter$Parser", "byteAt", "(I)I"⟩, 9) := ⟨⟨by decide +kernel, by decide +kernel⟩, List.mem_of_getElem? (i := 40) (by decide +kernel), List.mem_of_getElem? (i := 741) (by decide +kernel), List.mem_of_getElem? (i := 742) (by decide +kernel)⟩
theorem lw_p11 : lw_okq (⟨"CoinSorter$Parser", "readStatement", "(LCoinSorter$Config;)V"⟩, 9) := ⟨⟨by decide +kernel, by decide +kernel⟩, List.mem_of_getElem? (i := 40) (by decide +kernel), List.mem_of_getElem? (i := 748) (by decide +kernel), List.mem_of_getElem? (i := 749) (by decide +kernel)⟩
theorem lw_p12 : lw_okq (⟨"CoinSorter$Parser", "isWord", "(Ljava/lang/String;)Z"⟩, 9) := ⟨⟨by decide +kernel, by decide +kernel⟩, List.mem_of_getElem? (i := 40) (by decide +kernel), List.mem_of_getElem? (i := 753) (by decide +kernel), List.mem_of_getElem? (i := 754) (by decide +kernel)⟩
theorem lw_p13 : lw_okq (⟨"CoinSorter$Parser", "readKind", "(LCoinSorter$Kinds;Z)V"⟩, 9) := ⟨⟨by decide +kernel, by decide +kernel⟩, List.mem_of_getElem? (i := 40) (by decide +kernel), List.mem_of_getElem? (i := 782) (by decide +kernel), List.mem_of_getElem? (i := 783) (by decide +kernel)⟩
theorem lw_p14 : lw_okq (⟨"CoinSorter$Row", "isFull", "()Z"⟩, 2) := ⟨⟨by decide +kernel, by decide +kernel⟩, List.mem_of_getElem? (i := 88) (by decide +kernel), List.mem_of_getElem? (i := 786) (by decide +kernel), List.mem_of_getElem? (i := 787) (by decide +kernel)⟩
theorem lw_p15 : lw_okq (⟨"CoinSorter$Parser", "failIf", "(ZI)V"⟩, 9) := ⟨⟨by decide +kernel, by decide +kernel⟩, List.mem_of_getElem? (i := 40) (by decide +kernel), List.mem_of_getElem? (i := 790) (by decide +kernel), List.mem_of_getElem? (i := 791) (by decide +kernel)⟩
def lw_privs_1 : List (MethodName × Nat) := [(⟨"CoinSorter$Row", "fillWithZeros", "(I)V"⟩, 2), (⟨"java/lang/Throwable", "fillInStackTrace", "(I)Ljava/lang/Throwable;"⟩, 6), (⟨"CoinSorter", "appendWord", "(I)V"⟩, 12), (⟨"CoinSorter$Config", "reset", "()V"⟩, 7), (⟨"CoinSorter$Kinds", "empty", "()V"⟩, 5), (⟨"CoinSorter$Row", "empty", "()V"⟩, 2), (⟨"CoinSorter$Parser", "begin", "([BI)V"⟩, 9), (⟨"CoinSorter$Parser", "hasStatement", "()Z"⟩, 9), (⟨"CoinSorter$Parser", "readToken", "()V"⟩, 9), (⟨"CoinSorter$Parser", "endOfRun", "(II)I"⟩, 9), (⟨"CoinSorter$Parser", "byteAt", "(I)I"⟩, 9), (⟨"CoinSorter$Parser", "readStatement", "(LCoinSorter$Config;)V"⟩, 9), (⟨"CoinSorter$Parser", "isWord", "(Ljava/lang/String;)Z"⟩, 9), (⟨"CoinSorter$Parser", "readKind", "(LCoinSorter$Kinds;Z)V"⟩, 9), (⟨"CoinSorter$Row", "isFull", "()Z"⟩, 2), (⟨"CoinSorter$Parser", "failIf", "(ZI)V"⟩, 9)]
theorem lw_r1 : ∀ q ∈ lw_privs_1, lw_okq q := List.forall_mem_cons.mpr ⟨lw_p0, List.forall_mem_cons.mpr ⟨lw_p1, List.forall_mem_cons.mpr ⟨lw_p2, List.forall_mem_cons.mpr ⟨lw_p3, List.forall_mem_cons.mpr ⟨lw_p4, List.forall_mem_cons.mpr ⟨lw_p5, List.forall_mem_cons.mpr ⟨lw_p6, List.forall_mem_cons.mpr ⟨lw_p7, List.forall_mem_cons.mpr ⟨lw_p8, List.forall_mem_cons.mpr ⟨lw_p9, List.forall_mem_cons.mpr ⟨lw_p10, List.forall_mem_cons.mpr ⟨lw_p11, List.forall_mem_cons.mpr ⟨lw_p12, List.forall_mem_cons.mpr ⟨lw_p13, List.forall_mem_cons.mpr ⟨lw_p14, List.forall_mem_cons.mpr ⟨lw_p15, fun _ h => absurd h List.not_mem_nil⟩⟩⟩⟩⟩⟩⟩⟩⟩⟩⟩⟩⟩⟩⟩⟩
theorem lw_p16 : lw_okq (⟨"CoinSorter$Parser", "readNumber", "(II)I"⟩, 9) := ⟨⟨by decide +kernel, by decide +kernel⟩, List.mem_of_getElem? (i := 40) (by decide +kernel), List.mem_of_getElem? (i := 794) (by decide +kernel), List.mem_of_getElem? (i := 795) (by decide +kernel)⟩
theorem lw_p17 : lw_okq (⟨"CoinSorter$Parser", "number", "()I"⟩, 9) := ⟨⟨by decide +kernel, by decide +kernel⟩, List.mem_of_getElem? (i := 40) (by decide +kernel), List.mem_of_getElem? (i := 798) (by decide +kernel), List.mem_of_getElem? (i := 799) (by decide +kernel)⟩
theorem lw_p18 : lw_okq (⟨"CoinSorter$Row", "add", "(I)V"⟩, 2) := ⟨⟨by decide +kernel, by decide +kernel⟩, List.mem_of_getElem? (i := 88) (by decide +kernel), List.mem_of_getElem? (i := 802) (by decide +kernel), List.mem_of_getElem? (i := 803) (by decide +kernel)⟩
theorem lw_p19 : lw_okq (⟨"CoinSorter$Parser", "readBin", "(LCoinSorter$Config;)V"⟩, 9) := ⟨⟨by decide +kernel, by decide +kernel⟩, List.mem_of_getElem? (i := 40) (by decide +kernel), List.mem_of_getElem? (i := 808) (by decide +kernel), List.mem_of_getElem? (i := 809) (by decide +kernel)⟩
theorem lw_p20 : lw_okq (⟨"CoinSorter$Kinds", "count", "()I"⟩, 5) := ⟨⟨by decide +kernel, by decide +kernel⟩, List.mem_of_getElem? (i := 82) (by decide +kernel), List.mem_of_getElem? (i := 812) (by decide +kernel), List.mem_of_getElem? (i := 813) (by decide +kernel)⟩
theorem lw_p21 : lw_okq (⟨"CoinSorter$Parser", "readSemicolon", "()V"⟩, 9) := ⟨⟨by decide +kernel, by decide +kernel⟩, List.mem_of_getElem? (i := 40) (by decide +kernel), List.mem_of_getElem? (i := 819) (by decide +kernel), List.mem_of_getElem? (i := 820) (by decide +kernel)⟩
theorem lw_p22 : lw_okq (⟨"CoinSorter", "takeSpareConfig", "()V"⟩, 12) := ⟨⟨by decide +kernel, by decide +kernel⟩, List.mem_of_getElem? (i := 32) (by decide +kernel), List.mem_of_getElem? (i := 823) (by decide +kernel), List.mem_of_getElem? (i := 824) (by decide +kernel)⟩
theorem lw_p23 : lw_okq (⟨"CoinSorter$State", "reset", "(LCoinSorter$Config;)V"⟩, 15) := ⟨⟨by decide +kernel, by decide +kernel⟩, List.mem_of_getElem? (i := 176) (by decide +kernel), List.mem_of_getElem? (i := 827) (by decide +kernel), List.mem_of_getElem? (i := 828) (by decide +kernel)⟩
theorem lw_p24 : lw_okq (⟨"CoinSorter$History", "forget", "()V"⟩, 3) := ⟨⟨by decide +kernel, by decide +kernel⟩, List.mem_of_getElem? (i := 587) (by decide +kernel), List.mem_of_getElem? (i := 832) (by decide +kernel), List.mem_of_getElem? (i := 833) (by decide +kernel)⟩
theorem lw_p25 : lw_okq (⟨"CoinSorter$Row", "at", "(I)I"⟩, 2) := ⟨⟨by decide +kernel, by decide +kernel⟩, List.mem_of_getElem? (i := 88) (by decide +kernel), List.mem_of_getElem? (i := 853) (by decide +kernel), List.mem_of_getElem? (i := 854) (by decide +kernel)⟩
theorem lw_p26 : lw_okq (⟨"CoinSorter", "nextOutcome", "()I"⟩, 12) := ⟨⟨by decide +kernel, by decide +kernel⟩, List.mem_of_getElem? (i := 32) (by decide +kernel), List.mem_of_getElem? (i := 897) (by decide +kernel), List.mem_of_getElem? (i := 898) (by decide +kernel)⟩
theorem lw_p27 : lw_okq (⟨"CoinSorter", "nextInLoop", "()I"⟩, 12) := ⟨⟨by decide +kernel, by decide +kernel⟩, List.mem_of_getElem? (i := 32) (by decide +kernel), List.mem_of_getElem? (i := 901) (by decide +kernel), List.mem_of_getElem? (i := 902) (by decide +kernel)⟩
theorem lw_p28 : lw_okq (⟨"CoinSorter", "isType", "(I)Z"⟩, 12) := ⟨⟨by decide +kernel, by decide +kernel⟩, List.mem_of_getElem? (i := 32) (by decide +kernel), List.mem_of_getElem? (i := 909) (by decide +kernel), List.mem_of_getElem? (i := 910) (by decide +kernel)⟩
theorem lw_p29 : lw_okq (⟨"CoinSorter$Row", "has", "(I)Z"⟩, 2) := ⟨⟨by decide +kernel, by decide +kernel⟩, List.mem_of_getElem? (i := 88) (by decide +kernel), List.mem_of_getElem? (i := 913) (by decide +kernel), List.mem_of_getElem? (i := 914) (by decide +kernel)⟩
theorem lw_p30 : lw_okq (⟨"CoinSorter", "outcomeOf", "(II)I"⟩, 12) := ⟨⟨by decide +kernel, by decide +kernel⟩, List.mem_of_getElem? (i := 32) (by decide +kernel), List.mem_of_getElem? (i := 923) (by decide +kernel), List.mem_of_getElem? (i := 924) (by decide +kernel)⟩
theorem lw_p31 : lw_okq (⟨"CoinSorter", "verdict", "(III)I"⟩, 12) := ⟨⟨by decide +kernel, by decide +kernel⟩, List.mem_of_getElem? (i := 32) (by decide +kernel), List.mem_of_getElem? (i := 927) (by decide +kernel), List.mem_of_getElem? (i := 928) (by decide +kernel)⟩
def lw_privs_2 : List (MethodName × Nat) := [(⟨"CoinSorter$Parser", "readNumber", "(II)I"⟩, 9), (⟨"CoinSorter$Parser", "number", "()I"⟩, 9), (⟨"CoinSorter$Row", "add", "(I)V"⟩, 2), (⟨"CoinSorter$Parser", "readBin", "(LCoinSorter$Config;)V"⟩, 9), (⟨"CoinSorter$Kinds", "count", "()I"⟩, 5), (⟨"CoinSorter$Parser", "readSemicolon", "()V"⟩, 9), (⟨"CoinSorter", "takeSpareConfig", "()V"⟩, 12), (⟨"CoinSorter$State", "reset", "(LCoinSorter$Config;)V"⟩, 15), (⟨"CoinSorter$History", "forget", "()V"⟩, 3), (⟨"CoinSorter$Row", "at", "(I)I"⟩, 2), (⟨"CoinSorter", "nextOutcome", "()I"⟩, 12), (⟨"CoinSorter", "nextInLoop", "()I"⟩, 12), (⟨"CoinSorter", "isType", "(I)Z"⟩, 12), (⟨"CoinSorter$Row", "has", "(I)Z"⟩, 2), (⟨"CoinSorter", "outcomeOf", "(II)I"⟩, 12), (⟨"CoinSorter", "verdict", "(III)I"⟩, 12)]
theorem lw_r2 : ∀ q ∈ lw_privs_2, lw_okq q := List.forall_mem_cons.mpr ⟨lw_p16, List.forall_mem_cons.mpr ⟨lw_p17, List.forall_mem_cons.mpr ⟨lw_p18, List.forall_mem_cons.mpr ⟨lw_p19, List.forall_mem_cons.mpr ⟨lw_p20, List.forall_mem_cons.mpr ⟨lw_p21, List.forall_mem_cons.mpr ⟨lw_p22, List.forall_mem_cons.mpr ⟨lw_p23, List.forall_mem_cons.mpr ⟨lw_p24, List.forall_mem_cons.mpr ⟨lw_p25, List.forall_mem_cons.mpr ⟨lw_p26, List.forall_mem_cons.mpr ⟨lw_p27, List.forall_mem_cons.mpr ⟨lw_p28, List.forall_mem_cons.mpr ⟨lw_p29, List.forall_mem_cons.mpr ⟨lw_p30, List.forall_mem_cons.mpr ⟨lw_p31, fun _ h => absurd h List.not_mem_nil⟩⟩⟩⟩⟩⟩⟩⟩⟩⟩⟩⟩⟩⟩⟩⟩
theorem lw_p32 : lw_okq (⟨"CoinSorter$Judge", "examine", "(LCoinSorter$Config;II)V"⟩, 2) := ⟨⟨by decide +kernel, by decide +kernel⟩, List.mem_of_getElem? (i := 607) (by decide +kernel), List.mem_of_getElem? (i := 931) (by decide +kernel), List.mem_of_getElem? (i := 932) (by decide +kernel)⟩
theorem lw_p33 : lw_okq (⟨"CoinSorter$Kinds", "scoreOf", "(III)I"⟩, 5) := ⟨⟨by decide +kernel, by decide +kernel⟩, List.mem_of_getElem? (i := 82) (by decide +kernel), List.mem_of_getElem? (i := 937) (by decide +kernel), List.mem_of_getElem? (i := 938) (by decide +kernel)⟩
theorem lw_p34 : lw_okq (⟨"CoinSorter$Judge", "verdictAt", "(I)I"⟩, 2) := ⟨⟨by decide +kernel, by decide +kernel⟩, List.mem_of_getElem? (i := 607) (by decide +kernel), List.mem_of_getElem? (i := 947) (by decide +kernel), List.mem_of_getElem? (i := 948) (by decide +kernel)⟩
theorem lw_p35 : lw_okq (⟨"CoinSorter", "hasBin", "(I)Z"⟩, 12) := ⟨⟨by decide +kernel, by decide +kernel⟩, List.mem_of_getElem? (i := 32) (by decide +kernel), List.mem_of_getElem? (i := 951) (by decide +kernel), List.mem_of_getElem? (i := 952) (by decide +kernel)⟩
theorem lw_p36 : lw_okq (⟨"CoinSorter", "discrepancyOf", "(I)I"⟩, 12) := ⟨⟨by decide +kernel, by decide +kernel⟩, List.mem_of_getElem? (i := 32) (by decide +kernel), List.mem_of_getElem? (i := 995) (by decide +kernel), List.mem_of_getElem? (i := 996) (by decide +kernel)⟩
theorem lw_p37 : lw_okq (⟨"CoinSorter", "planPayout", "(I)I"⟩, 12) := ⟨⟨by decide +kernel, by decide +kernel⟩, List.mem_of_getElem? (i := 32) (by decide +kernel), List.mem_of_getElem? (i := 1013) (by decide +kernel), List.mem_of_getElem? (i := 1014) (by decide +kernel)⟩
theorem lw_p38 : lw_okq (⟨"CoinSorter$Payout", "takeStock", "(LCoinSorter$Config;LCoinSorter$Row;)V"⟩, 5) := ⟨⟨by decide +kernel, by decide +kernel⟩, List.mem_of_getElem? (i := 622) (by decide +kernel), List.mem_of_getElem? (i := 1017) (by decide +kernel), List.mem_of_getElem? (i := 1018) (by decide +kernel)⟩
theorem lw_p39 : lw_okq (⟨"CoinSorter$Payout", "plan", "(LCoinSorter$Row;I)I"⟩, 5) := ⟨⟨by decide +kernel, by decide +kernel⟩, List.mem_of_getElem? (i := 622) (by decide +kernel), List.mem_of_getElem? (i := 1025) (by decide +kernel), List.mem_of_getElem? (i := 1026) (by decide +kernel)⟩
theorem lw_p40 : lw_okq (⟨"CoinSorter$Payout", "weighType", "(IIJI)V"⟩, 5) := ⟨⟨by decide +kernel, by decide +kernel⟩, List.mem_of_getElem? (i := 622) (by decide +kernel), List.mem_of_getElem? (i := 1034) (by decide +kernel), List.mem_of_getElem? (i := 1035) (by decide +kernel)⟩
theorem lw_p41 : lw_okq (⟨"CoinSorter$Payout", "weighPacket", "(IJI)V"⟩, 5) := ⟨⟨by decide +kernel, by decide +kernel⟩, List.mem_of_getElem? (i := 622) (by decide +kernel), List.mem_of_getElem? (i := 1038) (by decide +kernel), List.mem_of_getElem? (i := 1039) (by decide +kernel)⟩
theorem lw_p42 : lw_okq (⟨"CoinSorter$Payout", "readCoins", "(J)I"⟩, 5) := ⟨⟨by decide +kernel, by decide +kernel⟩, List.mem_of_getElem? (i := 622) (by decide +kernel), List.mem_of_getElem? (i := 1042) (by decide +kernel), List.mem_of_getElem? (i := 1043) (by decide +kernel)⟩
theorem lw_p43 : lw_okq (⟨"CoinSorter$Tuning", "begin", "()V"⟩, 2) := ⟨⟨by decide +kernel, by decide +kernel⟩, List.mem_of_getElem? (i := 648) (by decide +kernel), List.mem_of_getElem? (i := 1070) (by decide +kernel), List.mem_of_getElem? (i := 1071) (by decide +kernel)⟩
theorem lw_p44 : lw_okq (⟨"CoinSorter$Tuning", "add", "(II)V"⟩, 2) := ⟨⟨by decide +kernel, by decide +kernel⟩, List.mem_of_getElem? (i := 648) (by decide +kernel), List.mem_of_getElem? (i := 1075) (by decide +kernel), List.mem_of_getElem? (i := 1076) (by decide +kernel)⟩
theorem lw_p45 : lw_okq (⟨"CoinSorter$Tuning", "best", "()I"⟩, 2) := ⟨⟨by decide +kernel, by decide +kernel⟩, List.mem_of_getElem? (i := 648) (by decide +kernel), List.mem_of_getElem? (i := 1080) (by decide +kernel), List.mem_of_getElem? (i := 1081) (by decide +kernel)⟩
theorem lw_p46 : lw_okq (⟨"CoinSorter$Tuning", "riseAt", "(I)I"⟩, 2) := ⟨⟨by decide +kernel, by decide +kernel⟩, List.mem_of_getElem? (i := 648) (by decide +kernel), List.mem_of_getElem? (i := 1085) (by decide +kernel), List.mem_of_getElem? (i := 1086) (by decide +kernel)⟩
theorem lw_p47 : lw_okq (⟨"CoinSorter$History", "push", "(LCoinSorter$State;)V"⟩, 3) := ⟨⟨by decide +kernel, by decide +kernel⟩, List.mem_of_getElem? (i := 587) (by decide +kernel), List.mem_of_getElem? (i := 1096) (by decide +kernel), List.mem_of_getElem? (i := 1097) (by decide +kernel)⟩
def lw_privs_3 : List (MethodName × Nat) := [(⟨"CoinSorter$Judge", "examine", "(LCoinSorter$Config;II)V"⟩, 2), (⟨"CoinSorter$Kinds", "scoreOf", "(III)I"⟩, 5), (⟨"CoinSorter$Judge", "verdictAt", "(I)I"⟩, 2), (⟨"CoinSorter", "hasBin", "(I)Z"⟩, 12), (⟨"CoinSorter", "discrepancyOf", "(I)I"⟩, 12), (⟨"CoinSorter", "planPayout", "(I)I"⟩, 12), (⟨"CoinSorter$Payout", "takeStock", "(LCoinSorter$Config;LCoinSorter$Row;)V"⟩, 5), (⟨"CoinSorter$Payout", "plan", "(LCoinSorter$Row;I)I"⟩, 5), (⟨"CoinSorter$Payout", "weighType", "(IIJI)V"⟩, 5), (⟨"CoinSorter$Payout", "weighPacket", "(IJI)V"⟩, 5), (⟨"CoinSorter$Payout", "readCoins", "(J)I"⟩, 5), (⟨"CoinSorter$Tuning", "begin", "()V"⟩, 2), (⟨"CoinSorter$Tuning", "add", "(II)V"⟩, 2), (⟨"CoinSorter$Tuning", "best", "()I"⟩, 2), (⟨"CoinSorter$Tuning", "riseAt", "(I)I"⟩, 2), (⟨"CoinSorter$History", "push", "(LCoinSorter$State;)V"⟩, 3)]
theorem lw_r3 : ∀ q ∈ lw_privs_3, lw_okq q := List.forall_mem_cons.mpr ⟨lw_p32, List.forall_mem_cons.mpr ⟨lw_p33, List.forall_mem_cons.mpr ⟨lw_p34, List.forall_mem_cons.mpr ⟨lw_p35, List.forall_mem_cons.mpr ⟨lw_p36, List.forall_mem_cons.mpr ⟨lw_p37, List.forall_mem_cons.mpr ⟨lw_p38, List.forall_mem_cons.mpr ⟨lw_p39, List.forall_mem_cons.mpr ⟨lw_p40, List.forall_mem_cons.mpr ⟨lw_p41, List.forall_mem_cons.mpr ⟨lw_p42, List.forall_mem_cons.mpr ⟨lw_p43, List.forall_mem_cons.mpr ⟨lw_p44, List.forall_mem_cons.mpr ⟨lw_p45, List.forall_mem_cons.mpr ⟨lw_p46, List.forall_mem_cons.mpr ⟨lw_p47, fun _ h => absurd h List.not_mem_nil⟩⟩⟩⟩⟩⟩⟩⟩⟩⟩⟩⟩⟩⟩⟩⟩
theorem lw_p48 : lw_okq (⟨"CoinSorter$State", "copyFrom", "(LCoinSorter$State;)V"⟩, 15) := ⟨⟨by decide +kernel, by decide +kernel⟩, List.mem_of_getElem? (i := 176) (by decide +kernel), List.mem_of_getElem? (i := 1103) (by decide +kernel), List.mem_of_getElem? (i := 1104) (by decide +kernel)⟩
theorem lw_p49 : lw_okq (⟨"CoinSorter$Row", "copyFrom", "(LCoinSorter$Row;)V"⟩, 2) := ⟨⟨by decide +kernel, by decide +kernel⟩, List.mem_of_getElem? (i := 88) (by decide +kernel), List.mem_of_getElem? (i := 1107) (by decide +kernel), List.mem_of_getElem? (i := 1108) (by decide +kernel)⟩
theorem lw_p50 : lw_okq (⟨"CoinSorter", "move", "(I)V"⟩, 12) := ⟨⟨by decide +kernel, by decide +kernel⟩, List.mem_of_getElem? (i := 32) (by decide +kernel), List.mem_of_getElem? (i := 1129) (by decide +kernel), List.mem_of_getElem? (i := 1130) (by decide +kernel)⟩
theorem lw_p51 : lw_okq (⟨"CoinSorter$Row", "removeAt", "(I)I"⟩, 2) := ⟨⟨by decide +kernel, by decide +kernel⟩, List.mem_of_getElem? (i := 88) (by decide +kernel), List.mem_of_getElem? (i := 1133) (by decide +kernel), List.mem_of_getElem? (i := 1134) (by decide +kernel)⟩
theorem lw_p52 : lw_okq (⟨"CoinSorter$Row", "increase", "(II)V"⟩, 2) := ⟨⟨by decide +kernel, by decide +kernel⟩, List.mem_of_getElem? (i := 88) (by decide +kernel), List.mem_of_getElem? (i := 1138) (by decide +kernel), List.mem_of_getElem? (i := 1139) (by decide +kernel)⟩
theorem lw_p53 : lw_okq (⟨"CoinSorter$State", "addRecord", "(I)V"⟩, 15) := ⟨⟨by decide +kernel, by decide +kernel⟩, List.mem_of_getElem? (i := 176) (by decide +kernel), List.mem_of_getElem? (i := 1142) (by decide +kernel), List.mem_of_getElem? (i := 1143) (by decide +kernel)⟩
theorem lw_p54 : lw_okq (⟨"CoinSorter$History", "pop", "(LCoinSorter$State;)Z"⟩, 3) := ⟨⟨by decide +kernel, by decide +kernel⟩, List.mem_of_getElem? (i := 587) (by decide +kernel), List.mem_of_getElem? (i := 1174) (by decide +kernel), List.mem_of_getElem? (i := 1175) (by decide +kernel)⟩
theorem lw_p55 : lw_okq (⟨"CoinSorter$Row", "put", "(II)V"⟩, 2) := ⟨⟨by decide +kernel, by decide +kernel⟩, List.mem_of_getElem? (i := 88) (by decide +kernel), List.mem_of_getElem? (i := 1247) (by decide +kernel), List.mem_of_getElem? (i := 1248) (by decide +kernel)⟩
theorem lw_p56 : lw_okq (⟨"CoinSorterModel", "clearState", "()V"⟩, 29) := ⟨⟨by decide +kernel, by decide +kernel⟩, List.mem_of_getElem? (i := 1251) (by decide +kernel), List.mem_of_getElem? (i := 1258) (by decide +kernel), List.mem_of_getElem? (i := 1259) (by decide +kernel)⟩
theorem lw_p57 : lw_okq (⟨"CoinSorterModel", "appendInt", "(I)V"⟩, 29) := ⟨⟨by decide +kernel, by decide +kernel⟩, List.mem_of_getElem? (i := 1251) (by decide +kernel), List.mem_of_getElem? (i := 1358) (by decide +kernel), List.mem_of_getElem? (i := 1359) (by decide +kernel)⟩
theorem lw_p58 : lw_okq (⟨"CoinSorterModel", "nextToken", "()V"⟩, 29) := ⟨⟨by decide +kernel, by decide +kernel⟩, List.mem_of_getElem? (i := 1251) (by decide +kernel), List.mem_of_getElem? (i := 1369) (by decide +kernel), List.mem_of_getElem? (i := 1370) (by decide +kernel)⟩
theorem lw_p59 : lw_okq (⟨"CoinSorterModel", "byteAt", "(I)I"⟩, 29) := ⟨⟨by decide +kernel, by decide +kernel⟩, List.mem_of_getElem? (i := 1251) (by decide +kernel), List.mem_of_getElem? (i := 1373) (by decide +kernel), List.mem_of_getElem? (i := 1374) (by decide +kernel)⟩
theorem lw_p60 : lw_okq (⟨"CoinSorterModel", "statement", "()V"⟩, 29) := ⟨⟨by decide +kernel, by decide +kernel⟩, List.mem_of_getElem? (i := 1251) (by decide +kernel), List.mem_of_getElem? (i := 1381) (by decide +kernel), List.mem_of_getElem? (i := 1382) (by decide +kernel)⟩
theorem lw_p61 : lw_okq (⟨"CoinSorterModel", "is", "(Ljava/lang/String;)Z"⟩, 29) := ⟨⟨by decide +kernel, by decide +kernel⟩, List.mem_of_getElem? (i := 1251) (by decide +kernel), List.mem_of_getElem? (i := 1386) (by decide +kernel), List.mem_of_getElem? (i := 1387) (by decide +kernel)⟩
theorem lw_p62 : lw_okq (⟨"CoinSorterModel", "must", "(ZI)Z"⟩, 29) := ⟨⟨by decide +kernel, by decide +kernel⟩, List.mem_of_getElem? (i := 1251) (by decide +kernel), List.mem_of_getElem? (i := 1392) (by decide +kernel), List.mem_of_getElem? (i := 1393) (by decide +kernel)⟩
theorem lw_p63 : lw_okq (⟨"CoinSorterModel", "readKind", "(IZ)V"⟩, 29) := ⟨⟨by decide +kernel, by decide +kernel⟩, List.mem_of_getElem? (i := 1251) (by decide +kernel), List.mem_of_getElem? (i := 1396) (by decide +kernel), List.mem_of_getElem? (i := 1397) (by decide +kernel)⟩
def lw_privs_4 : List (MethodName × Nat) := [(⟨"CoinSorter$State", "copyFrom", "(LCoinSorter$State;)V"⟩, 15), (⟨"CoinSorter$Row", "copyFrom", "(LCoinSorter$Row;)V"⟩, 2), (⟨"CoinSorter", "move", "(I)V"⟩, 12), (⟨"CoinSorter$Row", "removeAt", "(I)I"⟩, 2), (⟨"CoinSorter$Row", "increase", "(II)V"⟩, 2), (⟨"CoinSorter$State", "addRecord", "(I)V"⟩, 15), (⟨"CoinSorter$History", "pop", "(LCoinSorter$State;)Z"⟩, 3), (⟨"CoinSorter$Row", "put", "(II)V"⟩, 2), (⟨"CoinSorterModel", "clearState", "()V"⟩, 29), (⟨"CoinSorterModel", "appendInt", "(I)V"⟩, 29), (⟨"CoinSorterModel", "nextToken", "()V"⟩, 29), (⟨"CoinSorterModel", "byteAt", "(I)I"⟩, 29), (⟨"CoinSorterModel", "statement", "()V"⟩, 29), (⟨"CoinSorterModel", "is", "(Ljava/lang/String;)Z"⟩, 29), (⟨"CoinSorterModel", "must", "(ZI)Z"⟩, 29), (⟨"CoinSorterModel", "readKind", "(IZ)V"⟩, 29)]
theorem lw_r4 : ∀ q ∈ lw_privs_4, lw_okq q := List.forall_mem_cons.mpr ⟨lw_p48, List.forall_mem_cons.mpr ⟨lw_p49, List.forall_mem_cons.mpr ⟨lw_p50, List.forall_mem_cons.mpr ⟨lw_p51, List.forall_mem_cons.mpr ⟨lw_p52, List.forall_mem_cons.mpr ⟨lw_p53, List.forall_mem_cons.mpr ⟨lw_p54, List.forall_mem_cons.mpr ⟨lw_p55, List.forall_mem_cons.mpr ⟨lw_p56, List.forall_mem_cons.mpr ⟨lw_p57, List.forall_mem_cons.mpr ⟨lw_p58, List.forall_mem_cons.mpr ⟨lw_p59, List.forall_mem_cons.mpr ⟨lw_p60, List.forall_mem_cons.mpr ⟨lw_p61, List.forall_mem_cons.mpr ⟨lw_p62, List.forall_mem_cons.mpr ⟨lw_p63, fun _ h => absurd h List.not_mem_nil⟩⟩⟩⟩⟩⟩⟩⟩⟩⟩⟩⟩⟩⟩⟩⟩
theorem lw_p64 : lw_okq (⟨"CoinSorterModel", "number", "(II)I"⟩, 29) := ⟨⟨by decide +kernel, by decide +kernel⟩, List.mem_of_getElem? (i := 1251) (by decide +kernel), List.mem_of_getElem? (i := 1400) (by decide +kernel), List.mem_of_getElem? (i := 1401) (by decide +kernel)⟩
theorem lw_p65 : lw_okq (⟨"CoinSorterModel", "once", "(III)I"⟩, 29) := ⟨⟨by decide +kernel, by decide +kernel⟩, List.mem_of_getElem? (i := 1251) (by decide +kernel), List.mem_of_getElem? (i := 1407) (by decide +kernel), List.mem_of_getElem? (i := 1408) (by decide +kernel)⟩
theorem lw_p66 : lw_okq (⟨"CoinSorterModel", "told", "(I)I"⟩, 29) := ⟨⟨by decide +kernel, by decide +kernel⟩, List.mem_of_getElem? (i := 1251) (by decide +kernel), List.mem_of_getElem? (i := 1420) (by decide +kernel), List.mem_of_getElem? (i := 1421) (by decide +kernel)⟩
theorem lw_p67 : lw_okq (⟨"CoinSorterModel", "isType", "(I)Z"⟩, 29) := ⟨⟨by decide +kernel, by decide +kernel⟩, List.mem_of_getElem? (i := 1251) (by decide +kernel), List.mem_of_getElem? (i := 1436) (by decide +kernel), List.mem_of_getElem? (i := 1437) (by decide +kernel)⟩
theorem lw_p68 : lw_okq (⟨"CoinSorterModel", "isBin", "(I)Z"⟩, 29) := ⟨⟨by decide +kernel, by decide +kernel⟩, List.mem_of_getElem? (i := 1251) (by decide +kernel), List.mem_of_getElem? (i := 1444) (by decide +kernel), List.mem_of_getElem? (i := 1445) (by decide +kernel)⟩
theorem lw_p69 : lw_okq (⟨"CoinSorterModel", "fail", "(I)I"⟩, 29) := ⟨⟨by decide +kernel, by decide +kernel⟩, List.mem_of_getElem? (i := 1251) (by decide +kernel), List.mem_of_getElem? (i := 1456) (by decide +kernel), List.mem_of_getElem? (i := 1457) (by decide +kernel)⟩
theorem lw_p70 : lw_okq (⟨"CoinSorterModel", "scoreFor", "(III)I"⟩, 29) := ⟨⟨by decide +kernel, by decide +kernel⟩, List.mem_of_getElem? (i := 1251) (by decide +kernel), List.mem_of_getElem? (i := 1465) (by decide +kernel), List.mem_of_getElem? (i := 1466) (by decide +kernel)⟩
theorem lw_p71 : lw_okq (⟨"CoinSorterModel", "verdict", "(III)I"⟩, 29) := ⟨⟨by decide +kernel, by decide +kernel⟩, List.mem_of_getElem? (i := 1251) (by decide +kernel), List.mem_of_getElem? (i := 1477) (by decide +kernel), List.mem_of_getElem? (i := 1478) (by decide +kernel)⟩
theorem lw_p72 : lw_okq (⟨"CoinSorterModel", "look", "(II)V"⟩, 29) := ⟨⟨by decide +kernel, by decide +kernel⟩, List.mem_of_getElem? (i := 1251) (by decide +kernel), List.mem_of_getElem? (i := 1481) (by decide +kernel), List.mem_of_getElem? (i := 1482) (by decide +kernel)⟩
theorem lw_p73 : lw_okq (⟨"CoinSorterModel", "nextOutcome", "()I"⟩, 29) := ⟨⟨by decide +kernel, by decide +kernel⟩, List.mem_of_getElem? (i := 1251) (by decide +kernel), List.mem_of_getElem? (i := 1518) (by decide +kernel), List.mem_of_getElem? (i := 1519) (by decide +kernel)⟩
theorem lw_p74 : lw_okq (⟨"CoinSorterModel", "movable", "()I"⟩, 29) := ⟨⟨by decide +kernel, by decide +kernel⟩, List.mem_of_getElem? (i := 1251) (by decide +kernel), List.mem_of_getElem? (i := 1522) (by decide +kernel), List.mem_of_getElem? (i := 1523) (by decide +kernel)⟩
theorem lw_p75 : lw_okq (⟨"CoinSorterModel", "roomFor", "(I)I"⟩, 29) := ⟨⟨by decide +kernel, by decide +kernel⟩, List.mem_of_getElem? (i := 1251) (by decide +kernel), List.mem_of_getElem? (i := 1526) (by decide +kernel), List.mem_of_getElem? (i := 1527) (by decide +kernel)⟩
theorem lw_p76 : lw_okq (⟨"CoinSorterModel", "missing", "(I)I"⟩, 29) := ⟨⟨by decide +kernel, by decide +kernel⟩, List.mem_of_getElem? (i := 1251) (by decide +kernel), List.mem_of_getElem? (i := 1530) (by decide +kernel), List.mem_of_getElem? (i := 1531) (by decide +kernel)⟩
theorem lw_p77 : lw_okq (⟨"CoinSorterModel", "hasBin", "(I)Z"⟩, 29) := ⟨⟨by decide +kernel, by decide +kernel⟩, List.mem_of_getElem? (i := 1251) (by decide +kernel), List.mem_of_getElem? (i := 1534) (by decide +kernel), List.mem_of_getElem? (i := 1535) (by decide +kernel)⟩
theorem lw_p78 : lw_okq (⟨"CoinSorterModel", "isBag", "(I)Z"⟩, 29) := ⟨⟨by decide +kernel, by decide +kernel⟩, List.mem_of_getElem? (i := 1251) (by decide +kernel), List.mem_of_getElem? (i := 1575) (by decide +kernel), List.mem_of_getElem? (i := 1576) (by decide +kernel)⟩
theorem lw_p79 : lw_okq (⟨"CoinSorterModel", "partOf", "(I)I"⟩, 29) := ⟨⟨by decide +kernel, by decide +kernel⟩, List.mem_of_getElem? (i := 1251) (by decide +kernel), List.mem_of_getElem? (i := 1587) (by decide +kernel), List.mem_of_getElem? (i := 1588) (by decide +kernel)⟩
def lw_privs_5 : List (MethodName × Nat) := [(⟨"CoinSorterModel", "number", "(II)I"⟩, 29), (⟨"CoinSorterModel", "once", "(III)I"⟩, 29), (⟨"CoinSorterModel", "told", "(I)I"⟩, 29), (⟨"CoinSorterModel", "isType", "(I)Z"⟩, 29), (⟨"CoinSorterModel", "isBin", "(I)Z"⟩, 29), (⟨"CoinSorterModel", "fail", "(I)I"⟩, 29), (⟨"CoinSorterModel", "scoreFor", "(III)I"⟩, 29), (⟨"CoinSorterModel", "verdict", "(III)I"⟩, 29), (⟨"CoinSorterModel", "look", "(II)V"⟩, 29), (⟨"CoinSorterModel", "nextOutcome", "()I"⟩, 29), (⟨"CoinSorterModel", "movable", "()I"⟩, 29), (⟨"CoinSorterModel", "roomFor", "(I)I"⟩, 29), (⟨"CoinSorterModel", "missing", "(I)I"⟩, 29), (⟨"CoinSorterModel", "hasBin", "(I)Z"⟩, 29), (⟨"CoinSorterModel", "isBag", "(I)Z"⟩, 29), (⟨"CoinSorterModel", "partOf", "(I)I"⟩, 29)]
theorem lw_r5 : ∀ q ∈ lw_privs_5, lw_okq q := List.forall_mem_cons.mpr ⟨lw_p64, List.forall_mem_cons.mpr ⟨lw_p65, List.forall_mem_cons.mpr ⟨lw_p66, List.forall_mem_cons.mpr ⟨lw_p67, List.forall_mem_cons.mpr ⟨lw_p68, List.forall_mem_cons.mpr ⟨lw_p69, List.forall_mem_cons.mpr ⟨lw_p70, List.forall_mem_cons.mpr ⟨lw_p71, List.forall_mem_cons.mpr ⟨lw_p72, List.forall_mem_cons.mpr ⟨lw_p73, List.forall_mem_cons.mpr ⟨lw_p74, List.forall_mem_cons.mpr ⟨lw_p75, List.forall_mem_cons.mpr ⟨lw_p76, List.forall_mem_cons.mpr ⟨lw_p77, List.forall_mem_cons.mpr ⟨lw_p78, List.forall_mem_cons.mpr ⟨lw_p79, fun _ h => absurd h List.not_mem_nil⟩⟩⟩⟩⟩⟩⟩⟩⟩⟩⟩⟩⟩⟩⟩⟩
theorem lw_p80 : lw_okq (⟨"CoinSorterModel", "pays", "(I)Z"⟩, 29) := ⟨⟨by decide +kernel, by decide +kernel⟩, List.mem_of_getElem? (i := 1251) (by decide +kernel), List.mem_of_getElem? (i := 1603) (by decide +kernel), List.mem_of_getElem? (i := 1604) (by decide +kernel)⟩
theorem lw_p81 : lw_okq (⟨"CoinSorterModel", "layPayouts", "(I)V"⟩, 29) := ⟨⟨by decide +kernel, by decide +kernel⟩, List.mem_of_getElem? (i := 1251) (by decide +kernel), List.mem_of_getElem? (i := 1607) (by decide +kernel), List.mem_of_getElem? (i := 1608) (by decide +kernel)⟩
theorem lw_p82 : lw_okq (⟨"CoinSorterModel", "coinValue", "(I)I"⟩, 29) := ⟨⟨by decide +kernel, by decide +kernel⟩, List.mem_of_getElem? (i := 1251) (by decide +kernel), List.mem_of_getElem? (i := 1611) (by decide +kernel), List.mem_of_getElem? (i := 1612) (by decide +kernel)⟩
theorem lw_p83 : lw_okq (⟨"CoinSorterModel", "fewestAt", "(II)I"⟩, 29) := ⟨⟨by decide +kernel, by decide +kernel⟩, List.mem_of_getElem? (i := 1251) (by decide +kernel), List.mem_of_getElem? (i := 1615) (by decide +kernel), List.mem_of_getElem? (i := 1616) (by decide +kernel)⟩
theorem lw_p84 : lw_okq (⟨"CoinSorterModel", "costWith", "(I)I"⟩, 29) := ⟨⟨by decide +kernel, by decide +kernel⟩, List.mem_of_getElem? (i := 1251) (by decide +kernel), List.mem_of_getElem? (i := 1632) (by decide +kernel), List.mem_of_getElem? (i := 1633) (by decide +kernel)⟩
theorem lw_p85 : lw_okq (⟨"CoinSorterModel", "sampleVerdict", "(II)I"⟩, 29) := ⟨⟨by decide +kernel, by decide +kernel⟩, List.mem_of_getElem? (i := 1251) (by decide +kernel), List.mem_of_getElem? (i := 1636) (by decide +kernel), List.mem_of_getElem? (i := 1637) (by decide +kernel)⟩
theorem lw_p86 : lw_okq (⟨"CoinSorterModel", "keep", "()V"⟩, 29) := ⟨⟨by decide +kernel, by decide +kernel⟩, List.mem_of_getElem? (i := 1251) (by decide +kernel), List.mem_of_getElem? (i := 1651) (by decide +kernel), List.mem_of_getElem? (i := 1652) (by decide +kernel)⟩
theorem lw_p87 : lw_okq (⟨"CoinSorterModel", "isStep", "(I)Z"⟩, 29) := ⟨⟨by decide +kernel, by decide +kernel⟩, List.mem_of_getElem? (i := 1251) (by decide +kernel), List.mem_of_getElem? (i := 1667) (by decide +kernel), List.mem_of_getElem? (i := 1668) (by decide +kernel)⟩
theorem lw_p88 : lw_okq (⟨"CoinSorterModel", "doStep", "(I)V"⟩, 29) := ⟨⟨by decide +kernel, by decide +kernel⟩, List.mem_of_getElem? (i := 1251) (by decide +kernel), List.mem_of_getElem? (i := 1671) (by decide +kernel), List.mem_of_getElem? (i := 1672) (by decide +kernel)⟩
theorem lw_p89 : lw_okq (⟨"CoinSorterModel", "takeFromLoop", "(I)V"⟩, 29) := ⟨⟨by decide +kernel, by decide +kernel⟩, List.mem_of_getElem? (i := 1251) (by decide +kernel), List.mem_of_getElem? (i := 1675) (by decide +kernel), List.mem_of_getElem? (i := 1676) (by decide +kernel)⟩
theorem lw_p90 : lw_okq (⟨"CoinSorterModel", "note", "(I)V"⟩, 29) := ⟨⟨by decide +kernel, by decide +kernel⟩, List.mem_of_getElem? (i := 1251) (by decide +kernel), List.mem_of_getElem? (i := 1679) (by decide +kernel), List.mem_of_getElem? (i := 1680) (by decide +kernel)⟩
theorem lw_p91 : lw_okq (⟨"CoinSorterModel", "takeFromHopper", "()V"⟩, 29) := ⟨⟨by decide +kernel, by decide +kernel⟩, List.mem_of_getElem? (i := 1251) (by decide +kernel), List.mem_of_getElem? (i := 1683) (by decide +kernel), List.mem_of_getElem? (i := 1684) (by decide +kernel)⟩
def lw_privs_6 : List (MethodName × Nat) := [(⟨"CoinSorterModel", "pays", "(I)Z"⟩, 29), (⟨"CoinSorterModel", "layPayouts", "(I)V"⟩, 29), (⟨"CoinSorterModel", "coinValue", "(I)I"⟩, 29), (⟨"CoinSorterModel", "fewestAt", "(II)I"⟩, 29), (⟨"CoinSorterModel", "costWith", "(I)I"⟩, 29), (⟨"CoinSorterModel", "sampleVerdict", "(II)I"⟩, 29), (⟨"CoinSorterModel", "keep", "()V"⟩, 29), (⟨"CoinSorterModel", "isStep", "(I)Z"⟩, 29), (⟨"CoinSorterModel", "doStep", "(I)V"⟩, 29), (⟨"CoinSorterModel", "takeFromLoop", "(I)V"⟩, 29), (⟨"CoinSorterModel", "note", "(I)V"⟩, 29), (⟨"CoinSorterModel", "takeFromHopper", "()V"⟩, 29)]
theorem lw_r6 : ∀ q ∈ lw_privs_6, lw_okq q := List.forall_mem_cons.mpr ⟨lw_p80, List.forall_mem_cons.mpr ⟨lw_p81, List.forall_mem_cons.mpr ⟨lw_p82, List.forall_mem_cons.mpr ⟨lw_p83, List.forall_mem_cons.mpr ⟨lw_p84, List.forall_mem_cons.mpr ⟨lw_p85, List.forall_mem_cons.mpr ⟨lw_p86, List.forall_mem_cons.mpr ⟨lw_p87, List.forall_mem_cons.mpr ⟨lw_p88, List.forall_mem_cons.mpr ⟨lw_p89, List.forall_mem_cons.mpr ⟨lw_p90, List.forall_mem_cons.mpr ⟨lw_p91, fun _ h => absurd h List.not_mem_nil⟩⟩⟩⟩⟩⟩⟩⟩⟩⟩⟩⟩
def lw_privs : List (MethodName × Nat) := lw_privs_1 ++ (lw_privs_2 ++ (lw_privs_3 ++ (lw_privs_4 ++ (lw_privs_5 ++ (lw_privs_6)))))
def lw_tbl : List Cond := k2_sels lw_privs ++ tables_1
theorem lw_privs_ok : ∀ q ∈ lw_privs, lw_okq q := by
  show ∀ q ∈ lw_privs_1 ++ (lw_privs_2 ++ (lw_privs_3 ++ (lw_privs_4 ++ (lw_privs_5 ++ (lw_privs_6))))), lw_okq q
  exact List.forall_mem_append.mpr ⟨lw_r1, List.forall_mem_append.mpr ⟨lw_r2, List.forall_mem_append.mpr ⟨lw_r3, List.forall_mem_append.mpr ⟨lw_r4, List.forall_mem_append.mpr ⟨lw_r5, lw_r6⟩⟩⟩⟩⟩
-- ===== end of PART A; then your names; then what follows =====
end
section
def RX0 : String := "CoinSorter$Config"
def TX0 : u_T := fun k => match k with
  | 0 => ("CoinSorter$Config", "types", "LCoinSorter$Kinds;", true)
  | 1 => ("CoinSorter$Config", "fakes", "LCoinSorter$Kinds;", true)
  | 2 => ("CoinSorter$Config", "binTypes", "LCoinSorter$Row;", true)
  | 3 => ("CoinSorter$Config", "binSizes", "LCoinSorter$Row;", true)
  | 4 => ("CoinSorter$Config", "gate", "I", false)
  | 5 => ("CoinSorter$Config", "loopCapacity", "I", false)
  | _ => ("CoinSorter$Config", "margin", "I", false)
def tyX0 : Nat → FieldType := fun k => match k with
  | 0 => .object "CoinSorter$Kinds"
  | 1 => .object "CoinSorter$Kinds"
  | 2 => .object "CoinSorter$Row"
  | 3 => .object "CoinSorter$Row"
  | 4 => .int
  | 5 => .int
  | _ => .int
theorem nmX0 : ∀ a, a < 7 → ∀ b, b < 7 → a ≠ b → (TX0 a).2.1 ≠ (TX0 b).2.1 := by decide +kernel
theorem tyX0_ok : ∀ k, k < 7 → parseFieldDescriptor (TX0 k).2.2.1 = some (tyX0 k) := by decide +kernel
abbrev cX0_init : ByteArray := prog_2_method_1_code
def yX0_init : MethodName := ⟨RX0, "<init>", "()V"⟩
abbrev cX0_reset : ByteArray := prog_2_method_2_code
def yX0_reset : MethodName := ⟨RX0, "reset", "()V"⟩
def RX1 : String := "CoinSorter$History"
def TX1 : u_T := fun k => match k with
  | 0 => ("CoinSorter$History", "states", "[LCoinSorter$State;", true)
  | 1 => ("CoinSorter$History", "oldest", "I", false)
  | _ => ("CoinSorter$History", "count", "I", false)
def tyX1 : Nat → FieldType := fun k => match k with
  | 0 => .array (.object "CoinSorter$State")
  | 1 => .int
  | _ => .int
theorem nmX1 : ∀ a, a < 3 → ∀ b, b < 3 → a ≠ b → (TX1 a).2.1 ≠ (TX1 b).2.1 := by decide +kernel
theorem tyX1_ok : ∀ k, k < 3 → parseFieldDescriptor (TX1 k).2.2.1 = some (tyX1 k) := by decide +kernel
abbrev cX1_init : ByteArray := prog_3_method_1_code
def yX1_init : MethodName := ⟨RX1, "<init>", "()V"⟩
abbrev cX1_push : ByteArray := prog_3_method_2_code
def yX1_push : MethodName := ⟨RX1, "push", "(LCoinSorter$State;)V"⟩
abbrev cX1_pop : ByteArray := prog_3_method_3_code
def yX1_pop : MethodName := ⟨RX1, "pop", "(LCoinSorter$State;)Z"⟩
abbrev cX1_forget : ByteArray := prog_3_method_4_code
def yX1_forget : MethodName := ⟨RX1, "forget", "()V"⟩
def RX2 : String := "CoinSorter$Judge"
def TX2 : u_T := fun k => match k with
  | 0 => ("CoinSorter$Judge", "sure", "I", false)
  | _ => ("CoinSorter$Judge", "gap", "I", false)
def tyX2 : Nat → FieldType := fun k => match k with
  | 0 => .int
  | _ => .int
theorem nmX2 : ∀ a, a < 2 → ∀ b, b < 2 → a ≠ b → (TX2 a).2.1 ≠ (TX2 b).2.1 := by decide +kernel
theorem tyX2_ok : ∀ k, k < 2 → parseFieldDescriptor (TX2 k).2.2.1 = some (tyX2 k) := by decide +kernel
abbrev cX2_init : ByteArray := prog_4_method_1_code
def yX2_init : MethodName := ⟨RX2, "<init>", "()V"⟩
abbrev cX2_examine : ByteArray := prog_4_method_2_code
def yX2_examine : MethodName := ⟨RX2, "examine", "(LCoinSorter$Config;II)V"⟩
abbrev cX2_verdictAt : ByteArray := prog_4_method_3_code
def yX2_verdictAt : MethodName := ⟨RX2, "verdictAt", "(I)I"⟩
def RX3 : String := "CoinSorter$Kinds"
def TX3 : u_T := fun k => match k with
  | 0 => ("CoinSorter$Kinds", "values", "LCoinSorter$Row;", true)
  | 1 => ("CoinSorter$Kinds", "diameters", "LCoinSorter$Row;", true)
  | 2 => ("CoinSorter$Kinds", "diameterTolerances", "LCoinSorter$Row;", true)
  | 3 => ("CoinSorter$Kinds", "alloys", "LCoinSorter$Row;", true)
  | _ => ("CoinSorter$Kinds", "alloyTolerances", "LCoinSorter$Row;", true)
def tyX3 : Nat → FieldType := fun k => match k with
  | 0 => .object "CoinSorter$Row"
  | 1 => .object "CoinSorter$Row"
  | 2 => .object "CoinSorter$Row"
  | 3 => .object "CoinSorter$Row"
  | _ => .object "CoinSorter$Row"
theorem nmX3 : ∀ a, a < 5 → ∀ b, b < 5 → a ≠ b → (TX3 a).2.1 ≠ (TX3 b).2.1 := by decide +kernel
theorem tyX3_ok : ∀ k, k < 5 → parseFieldDescriptor (TX3 k).2.2.1 = some (tyX3 k) := by decide +kernel
abbrev cX3_init : ByteArray := prog_5_method_1_code
def yX3_init : MethodName := ⟨RX3, "<init>", "(I)V"⟩
abbrev cX3_count : ByteArray := prog_5_method_2_code
def yX3_count : MethodName := ⟨RX3, "count", "()I"⟩
abbrev cX3_empty : ByteArray := prog_5_method_3_code
def yX3_empty : MethodName := ⟨RX3, "empty", "()V"⟩
abbrev cX3_scoreOf : ByteArray := prog_5_method_4_code
def yX3_scoreOf : MethodName := ⟨RX3, "scoreOf", "(III)I"⟩
abbrev cX3_deviation : ByteArray := prog_5_method_5_code
def yX3_deviation : MethodName := ⟨RX3, "deviation", "(III)I"⟩
def RX4 : String := "CoinSorter$Parser"
def TX4 : u_T := fun k => match k with
  | 0 => ("CoinSorter$Parser", "text", "[B", false)
  | 1 => ("CoinSorter$Parser", "length", "I", false)
  | 2 => ("CoinSorter$Parser", "token", "I", false)
  | 3 => ("CoinSorter$Parser", "start", "I", false)
  | 4 => ("CoinSorter$Parser", "end", "I", false)
  | 5 => ("CoinSorter$Parser", "error", "I", false)
  | 6 => ("CoinSorter$Parser", "gateIsRead", "Z", false)
  | 7 => ("CoinSorter$Parser", "loopIsRead", "Z", false)
  | _ => ("CoinSorter$Parser", "marginIsRead", "Z", false)
def tyX4 : Nat → FieldType := fun k => match k with
  | 0 => .array .byte
  | 1 => .int
  | 2 => .int
  | 3 => .int
  | 4 => .int
  | 5 => .int
  | 6 => .boolean
  | 7 => .boolean
  | _ => .boolean
theorem nmX4 : ∀ a, a < 9 → ∀ b, b < 9 → a ≠ b → (TX4 a).2.1 ≠ (TX4 b).2.1 := by decide +kernel
theorem tyX4_ok : ∀ k, k < 9 → parseFieldDescriptor (TX4 k).2.2.1 = some (tyX4 k) := by decide +kernel
abbrev cX4_init : ByteArray := prog_6_method_1_code
def yX4_init : MethodName := ⟨RX4, "<init>", "()V"⟩
abbrev cX4_begin : ByteArray := prog_6_method_2_code
def yX4_begin : MethodName := ⟨RX4, "begin", "([BI)V"⟩
abbrev cX4_hasStatement : ByteArray := prog_6_method_3_code
def yX4_hasStatement : MethodName := ⟨RX4, "hasStatement", "()Z"⟩
abbrev cX4_readStatement : ByteArray := prog_6_method_4_code
def yX4_readStatement : MethodName := ⟨RX4, "readStatement", "(LCoinSorter$Config;)V"⟩
abbrev cX4_readKind : ByteArray := prog_6_method_5_code
def yX4_readKind : MethodName := ⟨RX4, "readKind", "(LCoinSorter$Kinds;Z)V"⟩
abbrev cX4_readBin : ByteArray := prog_6_method_6_code
def yX4_readBin : MethodName := ⟨RX4, "readBin", "(LCoinSorter$Config;)V"⟩
abbrev cX4_readNumber : ByteArray := prog_6_method_7_code
def yX4_readNumber : MethodName := ⟨RX4, "readNumber", "(II)I"⟩
abbrev cX4_readSemicolon : ByteArray := prog_6_method_8_code
def yX4_readSemicolon : MethodName := ⟨RX4, "readSemicolon", "()V"⟩
abbrev cX4_failIf : ByteArray := prog_6_method_9_code
def yX4_failIf : MethodName := ⟨RX4, "failIf", "(ZI)V"⟩
abbrev cX4_readToken : ByteArray := prog_6_method_10_code
def yX4_readToken : MethodName := ⟨RX4, "readToken", "()V"⟩
abbrev cX4_endOfRun : ByteArray := prog_6_method_11_code
def yX4_endOfRun : MethodName := ⟨RX4, "endOfRun", "(II)I"⟩
abbrev cX4_byteAt : ByteArray := prog_6_method_12_code
def yX4_byteAt : MethodName := ⟨RX4, "byteAt", "(I)I"⟩
abbrev cX4_tokenOf : ByteArray := prog_6_method_13_code
def yX4_tokenOf : MethodName := ⟨RX4, "tokenOf", "(I)I"⟩
abbrev cX4_isWord : ByteArray := prog_6_method_14_code
def yX4_isWord : MethodName := ⟨RX4, "isWord", "(Ljava/lang/String;)Z"⟩
abbrev cX4_number : ByteArray := prog_6_method_15_code
def yX4_number : MethodName := ⟨RX4, "number", "()I"⟩
def RX5 : String := "CoinSorter$Payout"
def TX5 : u_T := fun k => match k with
  | 0 => ("CoinSorter$Payout", "stock", "[I", true)
  | 1 => ("CoinSorter$Payout", "places", "[J", true)
  | 2 => ("CoinSorter$Payout", "weights", "[J", true)
  | 3 => ("CoinSorter$Payout", "whole", "J", false)
  | _ => ("CoinSorter$Payout", "coins", "LCoinSorter$Row;", true)
def tyX5 : Nat → FieldType := fun k => match k with
  | 0 => .array .int
  | 1 => .array .long
  | 2 => .array .long
  | 3 => .long
  | _ => .object "CoinSorter$Row"
theorem nmX5 : ∀ a, a < 5 → ∀ b, b < 5 → a ≠ b → (TX5 a).2.1 ≠ (TX5 b).2.1 := by decide +kernel
theorem tyX5_ok : ∀ k, k < 5 → parseFieldDescriptor (TX5 k).2.2.1 = some (tyX5 k) := by decide +kernel
abbrev cX5_init : ByteArray := prog_7_method_1_code
def yX5_init : MethodName := ⟨RX5, "<init>", "()V"⟩
abbrev cX5_takeStock : ByteArray := prog_7_method_2_code
def yX5_takeStock : MethodName := ⟨RX5, "takeStock", "(LCoinSorter$Config;LCoinSorter$Row;)V"⟩
abbrev cX5_plan : ByteArray := prog_7_method_3_code
def yX5_plan : MethodName := ⟨RX5, "plan", "(LCoinSorter$Row;I)I"⟩
abbrev cX5_weighType : ByteArray := prog_7_method_4_code
def yX5_weighType : MethodName := ⟨RX5, "weighType", "(IIJI)V"⟩
abbrev cX5_weighPacket : ByteArray := prog_7_method_5_code
def yX5_weighPacket : MethodName := ⟨RX5, "weighPacket", "(IJI)V"⟩
abbrev cX5_readCoins : ByteArray := prog_7_method_6_code
def yX5_readCoins : MethodName := ⟨RX5, "readCoins", "(J)I"⟩
def RX6 : String := "CoinSorter$Row"
def TX6 : u_T := fun k => match k with
  | 0 => ("CoinSorter$Row", "items", "[I", true)
  | _ => ("CoinSorter$Row", "size", "I", false)
def tyX6 : Nat → FieldType := fun k => match k with
  | 0 => .array .int
  | _ => .int
theorem nmX6 : ∀ a, a < 2 → ∀ b, b < 2 → a ≠ b → (TX6 a).2.1 ≠ (TX6 b).2.1 := by decide +kernel
theorem tyX6_ok : ∀ k, k < 2 → parseFieldDescriptor (TX6 k).2.2.1 = some (tyX6 k) := by decide +kernel
abbrev cX6_init : ByteArray := prog_8_method_1_code
def yX6_init : MethodName := ⟨RX6, "<init>", "(I)V"⟩
abbrev cX6_isFull : ByteArray := prog_8_method_2_code
def yX6_isFull : MethodName := ⟨RX6, "isFull", "()Z"⟩
abbrev cX6_has : ByteArray := prog_8_method_3_code
def yX6_has : MethodName := ⟨RX6, "has", "(I)Z"⟩
abbrev cX6_at : ByteArray := prog_8_method_4_code
def yX6_at : MethodName := ⟨RX6, "at", "(I)I"⟩
abbrev cX6_put : ByteArray := prog_8_method_5_code
def yX6_put : MethodName := ⟨RX6, "put", "(II)V"⟩
abbrev cX6_increase : ByteArray := prog_8_method_6_code
def yX6_increase : MethodName := ⟨RX6, "increase", "(II)V"⟩
abbrev cX6_add : ByteArray := prog_8_method_7_code
def yX6_add : MethodName := ⟨RX6, "add", "(I)V"⟩
abbrev cX6_removeAt : ByteArray := prog_8_method_8_code
def yX6_removeAt : MethodName := ⟨RX6, "removeAt", "(I)I"⟩
abbrev cX6_empty : ByteArray := prog_8_method_9_code
def yX6_empty : MethodName := ⟨RX6, "empty", "()V"⟩
abbrev cX6_fillWithZeros : ByteArray := prog_8_method_10_code
def yX6_fillWithZeros : MethodName := ⟨RX6, "fillWithZeros", "(I)V"⟩
abbrev cX6_copyFrom : ByteArray := prog_8_method_11_code
def yX6_copyFrom : MethodName := ⟨RX6, "copyFrom", "(LCoinSorter$Row;)V"⟩
def RX7 : String := "CoinSorter$State"
def TX7 : u_T := fun k => match k with
  | 0 => ("CoinSorter$State", "diameterOffset", "I", false)
  | 1 => ("CoinSorter$State", "alloyOffset", "I", false)
  | 2 => ("CoinSorter$State", "margin", "I", false)
  | 3 => ("CoinSorter$State", "jammed", "Z", false)
  | 4 => ("CoinSorter$State", "stepCount", "I", false)
  | 5 => ("CoinSorter$State", "hopper", "LCoinSorter$Row;", true)
  | 6 => ("CoinSorter$State", "loop", "LCoinSorter$Row;", true)
  | 7 => ("CoinSorter$State", "binCoins", "LCoinSorter$Row;", true)
  | 8 => ("CoinSorter$State", "rejected", "LCoinSorter$Row;", true)
  | 9 => ("CoinSorter$State", "records", "LCoinSorter$Row;", true)
  | 10 => ("CoinSorter$State", "bagTypes", "LCoinSorter$Row;", true)
  | 11 => ("CoinSorter$State", "bagCoins", "LCoinSorter$Row;", true)
  | 12 => ("CoinSorter$State", "bagAudits", "LCoinSorter$Row;", true)
  | 13 => ("CoinSorter$State", "sampleCoins", "LCoinSorter$Row;", true)
  | _ => ("CoinSorter$State", "sampleLabels", "LCoinSorter$Row;", true)
def tyX7 : Nat → FieldType := fun k => match k with
  | 0 => .int
  | 1 => .int
  | 2 => .int
  | 3 => .boolean
  | 4 => .int
  | 5 => .object "CoinSorter$Row"
  | 6 => .object "CoinSorter$Row"
  | 7 => .object "CoinSorter$Row"
  | 8 => .object "CoinSorter$Row"
  | 9 => .object "CoinSorter$Row"
  | 10 => .object "CoinSorter$Row"
  | 11 => .object "CoinSorter$Row"
  | 12 => .object "CoinSorter$Row"
  | 13 => .object "CoinSorter$Row"
  | _ => .object "CoinSorter$Row"
theorem nmX7 : ∀ a, a < 15 → ∀ b, b < 15 → a ≠ b → (TX7 a).2.1 ≠ (TX7 b).2.1 := by decide +kernel
theorem tyX7_ok : ∀ k, k < 15 → parseFieldDescriptor (TX7 k).2.2.1 = some (tyX7 k) := by decide +kernel
abbrev cX7_init : ByteArray := prog_9_method_1_code
def yX7_init : MethodName := ⟨RX7, "<init>", "()V"⟩
abbrev cX7_reset : ByteArray := prog_9_method_2_code
def yX7_reset : MethodName := ⟨RX7, "reset", "(LCoinSorter$Config;)V"⟩
abbrev cX7_addRecord : ByteArray := prog_9_method_3_code
def yX7_addRecord : MethodName := ⟨RX7, "addRecord", "(I)V"⟩
abbrev cX7_copyFrom : ByteArray := prog_9_method_4_code
def yX7_copyFrom : MethodName := ⟨RX7, "copyFrom", "(LCoinSorter$State;)V"⟩
def RX8 : String := "CoinSorter$Tuning"
def TX8 : u_T := fun k => match k with
  | 0 => ("CoinSorter$Tuning", "gaps", "LCoinSorter$Row;", true)
  | _ => ("CoinSorter$Tuning", "rises", "LCoinSorter$Row;", true)
def tyX8 : Nat → FieldType := fun k => match k with
  | 0 => .object "CoinSorter$Row"
  | _ => .object "CoinSorter$Row"
theorem nmX8 : ∀ a, a < 2 → ∀ b, b < 2 → a ≠ b → (TX8 a).2.1 ≠ (TX8 b).2.1 := by decide +kernel
theorem tyX8_ok : ∀ k, k < 2 → parseFieldDescriptor (TX8 k).2.2.1 = some (tyX8 k) := by decide +kernel
abbrev cX8_init : ByteArray := prog_10_method_1_code
def yX8_init : MethodName := ⟨RX8, "<init>", "()V"⟩
abbrev cX8_begin : ByteArray := prog_10_method_2_code
def yX8_begin : MethodName := ⟨RX8, "begin", "()V"⟩
abbrev cX8_add : ByteArray := prog_10_method_3_code
def yX8_add : MethodName := ⟨RX8, "add", "(II)V"⟩
abbrev cX8_best : ByteArray := prog_10_method_4_code
def yX8_best : MethodName := ⟨RX8, "best", "()I"⟩
abbrev cX8_riseAt : ByteArray := prog_10_method_5_code
def yX8_riseAt : MethodName := ⟨RX8, "riseAt", "(I)I"⟩
def RX9 : String := "CoinSorter"
def TX9 : u_T := fun k => match k with
  | 0 => ("CoinSorter", "buffer", "[B", true)
  | 1 => ("CoinSorter", "bufferLength", "I", false)
  | 2 => ("CoinSorter", "parser", "LCoinSorter$Parser;", true)
  | 3 => ("CoinSorter", "config", "LCoinSorter$Config;", false)
  | 4 => ("CoinSorter", "spareConfig", "LCoinSorter$Config;", false)
  | 5 => ("CoinSorter", "state", "LCoinSorter$State;", true)
  | 6 => ("CoinSorter", "history", "LCoinSorter$History;", true)
  | 7 => ("CoinSorter", "slots", "[LCoinSorter$State;", true)
  | 8 => ("CoinSorter", "slotIsSaved", "[Z", true)
  | 9 => ("CoinSorter", "judge", "LCoinSorter$Judge;", true)
  | 10 => ("CoinSorter", "payout", "LCoinSorter$Payout;", true)
  | _ => ("CoinSorter", "tuning", "LCoinSorter$Tuning;", true)
def tyX9 : Nat → FieldType := fun k => match k with
  | 0 => .array .byte
  | 1 => .int
  | 2 => .object "CoinSorter$Parser"
  | 3 => .object "CoinSorter$Config"
  | 4 => .object "CoinSorter$Config"
  | 5 => .object "CoinSorter$State"
  | 6 => .object "CoinSorter$History"
  | 7 => .array (.object "CoinSorter$State")
  | 8 => .array .boolean
  | 9 => .object "CoinSorter$Judge"
  | 10 => .object "CoinSorter$Payout"
  | _ => .object "CoinSorter$Tuning"
theorem nmX9 : ∀ a, a < 12 → ∀ b, b < 12 → a ≠ b → (TX9 a).2.1 ≠ (TX9 b).2.1 := by decide +kernel
theorem tyX9_ok : ∀ k, k < 12 → parseFieldDescriptor (TX9 k).2.2.1 = some (tyX9 k) := by decide +kernel
abbrev cX9_init : ByteArray := prog_1_method_1_code
def yX9_init : MethodName := ⟨RX9, "<init>", "()V"⟩
abbrev cX9_append : ByteArray := prog_1_method_2_code
def yX9_append : MethodName := ⟨RX9, "append", "(IIIII)I"⟩
abbrev cX9_appendWord : ByteArray := prog_1_method_3_code
def yX9_appendWord : MethodName := ⟨RX9, "appendWord", "(I)V"⟩
abbrev cX9_parse : ByteArray := prog_1_method_4_code
def yX9_parse : MethodName := ⟨RX9, "parse", "(I)I"⟩
abbrev cX9_takeSpareConfig : ByteArray := prog_1_method_5_code
def yX9_takeSpareConfig : MethodName := ⟨RX9, "takeSpareConfig", "()V"⟩
abbrev cX9_typeCount : ByteArray := prog_1_method_6_code
def yX9_typeCount : MethodName := ⟨RX9, "typeCount", "()I"⟩
abbrev cX9_fakeCount : ByteArray := prog_1_method_7_code
def yX9_fakeCount : MethodName := ⟨RX9, "fakeCount", "()I"⟩
abbrev cX9_binCount : ByteArray := prog_1_method_8_code
def yX9_binCount : MethodName := ⟨RX9, "binCount", "()I"⟩
abbrev cX9_typeValue : ByteArray := prog_1_method_9_code
def yX9_typeValue : MethodName := ⟨RX9, "typeValue", "(I)I"⟩
abbrev cX9_binType : ByteArray := prog_1_method_10_code
def yX9_binType : MethodName := ⟨RX9, "binType", "(I)I"⟩
abbrev cX9_bagSize : ByteArray := prog_1_method_11_code
def yX9_bagSize : MethodName := ⟨RX9, "bagSize", "(I)I"⟩
abbrev cX9_score : ByteArray := prog_1_method_12_code
def yX9_score : MethodName := ⟨RX9, "score", "(III)I"⟩
abbrev cX9_classify : ByteArray := prog_1_method_13_code
def yX9_classify : MethodName := ⟨RX9, "classify", "(II)I"⟩
abbrev cX9_verdict : ByteArray := prog_1_method_14_code
def yX9_verdict : MethodName := ⟨RX9, "verdict", "(III)I"⟩
abbrev cX9_isType : ByteArray := prog_1_method_15_code
def yX9_isType : MethodName := ⟨RX9, "isType", "(I)Z"⟩
abbrev cX9_isMeasurement : ByteArray := prog_1_method_16_code
def yX9_isMeasurement : MethodName := ⟨RX9, "isMeasurement", "(II)Z"⟩
abbrev cX9_isMargin : ByteArray := prog_1_method_17_code
def yX9_isMargin : MethodName := ⟨RX9, "isMargin", "(I)Z"⟩
abbrev cX9_diameterOffset : ByteArray := prog_1_method_18_code
def yX9_diameterOffset : MethodName := ⟨RX9, "diameterOffset", "()I"⟩
abbrev cX9_alloyOffset : ByteArray := prog_1_method_19_code
def yX9_alloyOffset : MethodName := ⟨RX9, "alloyOffset", "()I"⟩
abbrev cX9_margin : ByteArray := prog_1_method_20_code
def yX9_margin : MethodName := ⟨RX9, "margin", "()I"⟩
abbrev cX9_hopperSize : ByteArray := prog_1_method_21_code
def yX9_hopperSize : MethodName := ⟨RX9, "hopperSize", "()I"⟩
abbrev cX9_loopSize : ByteArray := prog_1_method_22_code
def yX9_loopSize : MethodName := ⟨RX9, "loopSize", "()I"⟩
abbrev cX9_loopType : ByteArray := prog_1_method_23_code
def yX9_loopType : MethodName := ⟨RX9, "loopType", "(I)I"⟩
abbrev cX9_isJammed : ByteArray := prog_1_method_24_code
def yX9_isJammed : MethodName := ⟨RX9, "isJammed", "()Z"⟩
abbrev cX9_isStopped : ByteArray := prog_1_method_25_code
def yX9_isStopped : MethodName := ⟨RX9, "isStopped", "()Z"⟩
abbrev cX9_binCoins : ByteArray := prog_1_method_26_code
def yX9_binCoins : MethodName := ⟨RX9, "binCoins", "(I)I"⟩
abbrev cX9_binFor : ByteArray := prog_1_method_27_code
def yX9_binFor : MethodName := ⟨RX9, "binFor", "(I)I"⟩
abbrev cX9_rejected : ByteArray := prog_1_method_28_code
def yX9_rejected : MethodName := ⟨RX9, "rejected", "(I)I"⟩
abbrev cX9_rejectIndex : ByteArray := prog_1_method_29_code
def yX9_rejectIndex : MethodName := ⟨RX9, "rejectIndex", "(I)I"⟩
abbrev cX9_stepCount : ByteArray := prog_1_method_30_code
def yX9_stepCount : MethodName := ⟨RX9, "stepCount", "()I"⟩
abbrev cX9_record : ByteArray := prog_1_method_31_code
def yX9_record : MethodName := ⟨RX9, "record", "(I)I"⟩
abbrev cX9_binValue : ByteArray := prog_1_method_32_code
def yX9_binValue : MethodName := ⟨RX9, "binValue", "()I"⟩
abbrev cX9_bagCount : ByteArray := prog_1_method_33_code
def yX9_bagCount : MethodName := ⟨RX9, "bagCount", "()I"⟩
abbrev cX9_bagType : ByteArray := prog_1_method_34_code
def yX9_bagType : MethodName := ⟨RX9, "bagType", "(I)I"⟩
abbrev cX9_bagCoins : ByteArray := prog_1_method_35_code
def yX9_bagCoins : MethodName := ⟨RX9, "bagCoins", "(I)I"⟩
abbrev cX9_discrepancy : ByteArray := prog_1_method_36_code
def yX9_discrepancy : MethodName := ⟨RX9, "discrepancy", "()I"⟩
abbrev cX9_discrepancyOf : ByteArray := prog_1_method_37_code
def yX9_discrepancyOf : MethodName := ⟨RX9, "discrepancyOf", "(I)I"⟩
abbrev cX9_worstBag : ByteArray := prog_1_method_38_code
def yX9_worstBag : MethodName := ⟨RX9, "worstBag", "()I"⟩
abbrev cX9_payoutCoins : ByteArray := prog_1_method_39_code
def yX9_payoutCoins : MethodName := ⟨RX9, "payoutCoins", "(I)I"⟩
abbrev cX9_payoutOf : ByteArray := prog_1_method_40_code
def yX9_payoutOf : MethodName := ⟨RX9, "payoutOf", "(II)I"⟩
abbrev cX9_isAmount : ByteArray := prog_1_method_41_code
def yX9_isAmount : MethodName := ⟨RX9, "isAmount", "(I)Z"⟩
abbrev cX9_planPayout : ByteArray := prog_1_method_42_code
def yX9_planPayout : MethodName := ⟨RX9, "planPayout", "(I)I"⟩
abbrev cX9_sampleCount : ByteArray := prog_1_method_43_code
def yX9_sampleCount : MethodName := ⟨RX9, "sampleCount", "()I"⟩
abbrev cX9_sampleCost : ByteArray := prog_1_method_44_code
def yX9_sampleCost : MethodName := ⟨RX9, "sampleCost", "(I)I"⟩
abbrev cX9_cost : ByteArray := prog_1_method_45_code
def yX9_cost : MethodName := ⟨RX9, "cost", "(II)I"⟩
abbrev cX9_bestMargin : ByteArray := prog_1_method_46_code
def yX9_bestMargin : MethodName := ⟨RX9, "bestMargin", "()I"⟩
abbrev cX9_calibrate : ByteArray := prog_1_method_47_code
def yX9_calibrate : MethodName := ⟨RX9, "calibrate", "(III)Z"⟩
abbrev cX9_setMargin : ByteArray := prog_1_method_48_code
def yX9_setMargin : MethodName := ⟨RX9, "setMargin", "(I)I"⟩
abbrev cX9_insert : ByteArray := prog_1_method_49_code
def yX9_insert : MethodName := ⟨RX9, "insert", "(II)I"⟩
abbrev cX9_coinOf : ByteArray := prog_1_method_50_code
def yX9_coinOf : MethodName := ⟨RX9, "coinOf", "(II)I"⟩
abbrev cX9_diameterOf : ByteArray := prog_1_method_51_code
def yX9_diameterOf : MethodName := ⟨RX9, "diameterOf", "(I)I"⟩
abbrev cX9_alloyOf : ByteArray := prog_1_method_52_code
def yX9_alloyOf : MethodName := ⟨RX9, "alloyOf", "(I)I"⟩
abbrev cX9_step : ByteArray := prog_1_method_53_code
def yX9_step : MethodName := ⟨RX9, "step", "()I"⟩
abbrev cX9_run : ByteArray := prog_1_method_54_code
def yX9_run : MethodName := ⟨RX9, "run", "(I)I"⟩
abbrev cX9_nextOutcome : ByteArray := prog_1_method_55_code
def yX9_nextOutcome : MethodName := ⟨RX9, "nextOutcome", "()I"⟩
abbrev cX9_nextInLoop : ByteArray := prog_1_method_56_code
def yX9_nextInLoop : MethodName := ⟨RX9, "nextInLoop", "()I"⟩
abbrev cX9_outcomeOf : ByteArray := prog_1_method_57_code
def yX9_outcomeOf : MethodName := ⟨RX9, "outcomeOf", "(II)I"⟩
abbrev cX9_hasBin : ByteArray := prog_1_method_58_code
def yX9_hasBin : MethodName := ⟨RX9, "hasBin", "(I)Z"⟩
abbrev cX9_move : ByteArray := prog_1_method_59_code
def yX9_move : MethodName := ⟨RX9, "move", "(I)V"⟩
abbrev cX9_clearJam : ByteArray := prog_1_method_60_code
def yX9_clearJam : MethodName := ⟨RX9, "clearJam", "()Z"⟩
abbrev cX9_changeBag : ByteArray := prog_1_method_61_code
def yX9_changeBag : MethodName := ⟨RX9, "changeBag", "(I)I"⟩
abbrev cX9_audit : ByteArray := prog_1_method_62_code
def yX9_audit : MethodName := ⟨RX9, "audit", "(II)I"⟩
abbrev cX9_dispense : ByteArray := prog_1_method_63_code
def yX9_dispense : MethodName := ⟨RX9, "dispense", "(I)I"⟩
abbrev cX9_addSample : ByteArray := prog_1_method_64_code
def yX9_addSample : MethodName := ⟨RX9, "addSample", "(III)I"⟩
abbrev cX9_undo : ByteArray := prog_1_method_65_code
def yX9_undo : MethodName := ⟨RX9, "undo", "()I"⟩
abbrev cX9_saveSnapshot : ByteArray := prog_1_method_66_code
def yX9_saveSnapshot : MethodName := ⟨RX9, "saveSnapshot", "(I)Z"⟩
abbrev cX9_restoreSnapshot : ByteArray := prog_1_method_67_code
def yX9_restoreSnapshot : MethodName := ⟨RX9, "restoreSnapshot", "(I)Z"⟩
def RX10 : String := "CoinSorterModel"
def TX10 : u_T := fun k => match k with
  | 0 => ("CoinSorterModel", "thrown", "I", false)
  | 1 => ("CoinSorterModel", "buffer", "[B", true)
  | 2 => ("CoinSorterModel", "length", "I", false)
  | 3 => ("CoinSorterModel", "textLength", "I", false)
  | 4 => ("CoinSorterModel", "tokenStart", "I", false)
  | 5 => ("CoinSorterModel", "tokenEnd", "I", false)
  | 6 => ("CoinSorterModel", "token", "I", false)
  | 7 => ("CoinSorterModel", "value", "I", false)
  | 8 => ("CoinSorterModel", "error", "I", false)
  | 9 => ("CoinSorterModel", "errorOffset", "I", false)
  | 10 => ("CoinSorterModel", "basic", "[I", true)
  | 11 => ("CoinSorterModel", "draft", "[I", true)
  | 12 => ("CoinSorterModel", "kinds", "[I", true)
  | 13 => ("CoinSorterModel", "binType", "[I", true)
  | 14 => ("CoinSorterModel", "binSize", "[I", true)
  | 15 => ("CoinSorterModel", "given", "I", false)
  | 16 => ("CoinSorterModel", "state", "[I", true)
  | 17 => ("CoinSorterModel", "history", "[I", true)
  | 18 => ("CoinSorterModel", "depth", "I", false)
  | 19 => ("CoinSorterModel", "slots", "[I", true)
  | 20 => ("CoinSorterModel", "isSaved", "[Z", true)
  | 21 => ("CoinSorterModel", "bestType", "I", false)
  | 22 => ("CoinSorterModel", "lowest", "I", false)
  | 23 => ("CoinSorterModel", "second", "I", false)
  | 24 => ("CoinSorterModel", "lowestFake", "I", false)
  | 25 => ("CoinSorterModel", "fewest", "[I", true)
  | 26 => ("CoinSorterModel", "held", "[I", true)
  | 27 => ("CoinSorterModel", "paid", "[I", true)
  | _ => ("CoinSorterModel", "changes", "[I", true)
def tyX10 : Nat → FieldType := fun k => match k with
  | 0 => .int
  | 1 => .array .byte
  | 2 => .int
  | 3 => .int
  | 4 => .int
  | 5 => .int
  | 6 => .int
  | 7 => .int
  | 8 => .int
  | 9 => .int
  | 10 => .array .int
  | 11 => .array .int
  | 12 => .array .int
  | 13 => .array .int
  | 14 => .array .int
  | 15 => .int
  | 16 => .array .int
  | 17 => .array .int
  | 18 => .int
  | 19 => .array .int
  | 20 => .array .boolean
  | 21 => .int
  | 22 => .int
  | 23 => .int
  | 24 => .int
  | 25 => .array .int
  | 26 => .array .int
  | 27 => .array .int
  | _ => .array .int
theorem nmX10 : ∀ a, a < 29 → ∀ b, b < 29 → a ≠ b → (TX10 a).2.1 ≠ (TX10 b).2.1 := by decide +kernel
theorem tyX10_ok : ∀ k, k < 29 → parseFieldDescriptor (TX10 k).2.2.1 = some (tyX10 k) := by decide +kernel
abbrev cX10_init : ByteArray := prog_12_method_1_code
def yX10_init : MethodName := ⟨RX10, "<init>", "()V"⟩
abbrev cX10_thrown : ByteArray := prog_12_method_2_code
def yX10_thrown : MethodName := ⟨RX10, "thrown", "()I"⟩
abbrev cX10_within : ByteArray := prog_12_method_3_code
def yX10_within : MethodName := ⟨RX10, "within", "(JJJ)Z"⟩
abbrev cX10_fail : ByteArray := prog_12_method_4_code
def yX10_fail : MethodName := ⟨RX10, "fail", "(I)I"⟩
abbrev cX10_appendInt : ByteArray := prog_12_method_5_code
def yX10_appendInt : MethodName := ⟨RX10, "appendInt", "(I)V"⟩
abbrev cX10_append : ByteArray := prog_12_method_6_code
def yX10_append : MethodName := ⟨RX10, "append", "(IIIII)I"⟩
abbrev cX10_byteAt : ByteArray := prog_12_method_7_code
def yX10_byteAt : MethodName := ⟨RX10, "byteAt", "(I)I"⟩
abbrev cX10_nextToken : ByteArray := prog_12_method_8_code
def yX10_nextToken : MethodName := ⟨RX10, "nextToken", "()V"⟩
abbrev cX10_must : ByteArray := prog_12_method_9_code
def yX10_must : MethodName := ⟨RX10, "must", "(ZI)Z"⟩
abbrev cX10_is : ByteArray := prog_12_method_10_code
def yX10_is : MethodName := ⟨RX10, "is", "(Ljava/lang/String;)Z"⟩
abbrev cX10_number : ByteArray := prog_12_method_11_code
def yX10_number : MethodName := ⟨RX10, "number", "(II)I"⟩
abbrev cX10_readKind : ByteArray := prog_12_method_12_code
def yX10_readKind : MethodName := ⟨RX10, "readKind", "(IZ)V"⟩
abbrev cX10_once : ByteArray := prog_12_method_13_code
def yX10_once : MethodName := ⟨RX10, "once", "(III)I"⟩
abbrev cX10_statement : ByteArray := prog_12_method_14_code
def yX10_statement : MethodName := ⟨RX10, "statement", "()V"⟩
abbrev cX10_adopt : ByteArray := prog_12_method_15_code
def yX10_adopt : MethodName := ⟨RX10, "adopt", "([I)V"⟩
abbrev cX10_parse : ByteArray := prog_12_method_16_code
def yX10_parse : MethodName := ⟨RX10, "parse", "(I)I"⟩
abbrev cX10_clearState : ByteArray := prog_12_method_17_code
def yX10_clearState : MethodName := ⟨RX10, "clearState", "()V"⟩
abbrev cX10_keep : ByteArray := prog_12_method_18_code
def yX10_keep : MethodName := ⟨RX10, "keep", "()V"⟩
abbrev cX10_isType : ByteArray := prog_12_method_19_code
def yX10_isType : MethodName := ⟨RX10, "isType", "(I)Z"⟩
abbrev cX10_isBin : ByteArray := prog_12_method_20_code
def yX10_isBin : MethodName := ⟨RX10, "isBin", "(I)Z"⟩
abbrev cX10_isBag : ByteArray := prog_12_method_21_code
def yX10_isBag : MethodName := ⟨RX10, "isBag", "(I)Z"⟩
abbrev cX10_isCoin : ByteArray := prog_12_method_22_code
def yX10_isCoin : MethodName := ⟨RX10, "isCoin", "(II)Z"⟩
abbrev cX10_told : ByteArray := prog_12_method_23_code
def yX10_told : MethodName := ⟨RX10, "told", "(I)I"⟩
abbrev cX10_typeCount : ByteArray := prog_12_method_24_code
def yX10_typeCount : MethodName := ⟨RX10, "typeCount", "()I"⟩
abbrev cX10_fakeCount : ByteArray := prog_12_method_25_code
def yX10_fakeCount : MethodName := ⟨RX10, "fakeCount", "()I"⟩
abbrev cX10_binCount : ByteArray := prog_12_method_26_code
def yX10_binCount : MethodName := ⟨RX10, "binCount", "()I"⟩
abbrev cX10_typeValue : ByteArray := prog_12_method_27_code
def yX10_typeValue : MethodName := ⟨RX10, "typeValue", "(I)I"⟩
abbrev cX10_binType : ByteArray := prog_12_method_28_code
def yX10_binType : MethodName := ⟨RX10, "binType", "(I)I"⟩
abbrev cX10_bagSize : ByteArray := prog_12_method_29_code
def yX10_bagSize : MethodName := ⟨RX10, "bagSize", "(I)I"⟩
abbrev cX10_deviation : ByteArray := prog_12_method_30_code
def yX10_deviation : MethodName := ⟨RX10, "deviation", "(III)I"⟩
abbrev cX10_scoreFor : ByteArray := prog_12_method_31_code
def yX10_scoreFor : MethodName := ⟨RX10, "scoreFor", "(III)I"⟩
abbrev cX10_look : ByteArray := prog_12_method_32_code
def yX10_look : MethodName := ⟨RX10, "look", "(II)V"⟩
abbrev cX10_verdict : ByteArray := prog_12_method_33_code
def yX10_verdict : MethodName := ⟨RX10, "verdict", "(III)I"⟩
abbrev cX10_score : ByteArray := prog_12_method_34_code
def yX10_score : MethodName := ⟨RX10, "score", "(III)I"⟩
abbrev cX10_classify : ByteArray := prog_12_method_35_code
def yX10_classify : MethodName := ⟨RX10, "classify", "(II)I"⟩
abbrev cX10_diameterOffset : ByteArray := prog_12_method_36_code
def yX10_diameterOffset : MethodName := ⟨RX10, "diameterOffset", "()I"⟩
abbrev cX10_alloyOffset : ByteArray := prog_12_method_37_code
def yX10_alloyOffset : MethodName := ⟨RX10, "alloyOffset", "()I"⟩
abbrev cX10_margin : ByteArray := prog_12_method_38_code
def yX10_margin : MethodName := ⟨RX10, "margin", "()I"⟩
abbrev cX10_hopperSize : ByteArray := prog_12_method_39_code
def yX10_hopperSize : MethodName := ⟨RX10, "hopperSize", "()I"⟩
abbrev cX10_loopSize : ByteArray := prog_12_method_40_code
def yX10_loopSize : MethodName := ⟨RX10, "loopSize", "()I"⟩
abbrev cX10_loopType : ByteArray := prog_12_method_41_code
def yX10_loopType : MethodName := ⟨RX10, "loopType", "(I)I"⟩
abbrev cX10_isJammed : ByteArray := prog_12_method_42_code
def yX10_isJammed : MethodName := ⟨RX10, "isJammed", "()Z"⟩
abbrev cX10_hasBin : ByteArray := prog_12_method_43_code
def yX10_hasBin : MethodName := ⟨RX10, "hasBin", "(I)Z"⟩
abbrev cX10_missing : ByteArray := prog_12_method_44_code
def yX10_missing : MethodName := ⟨RX10, "missing", "(I)I"⟩
abbrev cX10_roomFor : ByteArray := prog_12_method_45_code
def yX10_roomFor : MethodName := ⟨RX10, "roomFor", "(I)I"⟩
abbrev cX10_movable : ByteArray := prog_12_method_46_code
def yX10_movable : MethodName := ⟨RX10, "movable", "()I"⟩
abbrev cX10_nextOutcome : ByteArray := prog_12_method_47_code
def yX10_nextOutcome : MethodName := ⟨RX10, "nextOutcome", "()I"⟩
abbrev cX10_isStopped : ByteArray := prog_12_method_48_code
def yX10_isStopped : MethodName := ⟨RX10, "isStopped", "()Z"⟩
abbrev cX10_binCoins : ByteArray := prog_12_method_49_code
def yX10_binCoins : MethodName := ⟨RX10, "binCoins", "(I)I"⟩
abbrev cX10_binFor : ByteArray := prog_12_method_50_code
def yX10_binFor : MethodName := ⟨RX10, "binFor", "(I)I"⟩
abbrev cX10_rejectPlace : ByteArray := prog_12_method_51_code
def yX10_rejectPlace : MethodName := ⟨RX10, "rejectPlace", "(I)I"⟩
abbrev cX10_rejected : ByteArray := prog_12_method_52_code
def yX10_rejected : MethodName := ⟨RX10, "rejected", "(I)I"⟩
abbrev cX10_stepCount : ByteArray := prog_12_method_53_code
def yX10_stepCount : MethodName := ⟨RX10, "stepCount", "()I"⟩
abbrev cX10_record : ByteArray := prog_12_method_54_code
def yX10_record : MethodName := ⟨RX10, "record", "(I)I"⟩
abbrev cX10_binValue : ByteArray := prog_12_method_55_code
def yX10_binValue : MethodName := ⟨RX10, "binValue", "()I"⟩
abbrev cX10_bagCount : ByteArray := prog_12_method_56_code
def yX10_bagCount : MethodName := ⟨RX10, "bagCount", "()I"⟩
abbrev cX10_bagType : ByteArray := prog_12_method_57_code
def yX10_bagType : MethodName := ⟨RX10, "bagType", "(I)I"⟩
abbrev cX10_bagCoins : ByteArray := prog_12_method_58_code
def yX10_bagCoins : MethodName := ⟨RX10, "bagCoins", "(I)I"⟩
abbrev cX10_partOf : ByteArray := prog_12_method_59_code
def yX10_partOf : MethodName := ⟨RX10, "partOf", "(I)I"⟩
abbrev cX10_discrepancy : ByteArray := prog_12_method_60_code
def yX10_discrepancy : MethodName := ⟨RX10, "discrepancy", "()I"⟩
abbrev cX10_worstBag : ByteArray := prog_12_method_61_code
def yX10_worstBag : MethodName := ⟨RX10, "worstBag", "()I"⟩
abbrev cX10_coinValue : ByteArray := prog_12_method_62_code
def yX10_coinValue : MethodName := ⟨RX10, "coinValue", "(I)I"⟩
abbrev cX10_fewestAt : ByteArray := prog_12_method_63_code
def yX10_fewestAt : MethodName := ⟨RX10, "fewestAt", "(II)I"⟩
abbrev cX10_layPayouts : ByteArray := prog_12_method_64_code
def yX10_layPayouts : MethodName := ⟨RX10, "layPayouts", "(I)V"⟩
abbrev cX10_pays : ByteArray := prog_12_method_65_code
def yX10_pays : MethodName := ⟨RX10, "pays", "(I)Z"⟩
abbrev cX10_isAmount : ByteArray := prog_12_method_66_code
def yX10_isAmount : MethodName := ⟨RX10, "isAmount", "(I)Z"⟩
abbrev cX10_payoutCoins : ByteArray := prog_12_method_67_code
def yX10_payoutCoins : MethodName := ⟨RX10, "payoutCoins", "(I)I"⟩
abbrev cX10_payoutOf : ByteArray := prog_12_method_68_code
def yX10_payoutOf : MethodName := ⟨RX10, "payoutOf", "(II)I"⟩
abbrev cX10_sampleCount : ByteArray := prog_12_method_69_code
def yX10_sampleCount : MethodName := ⟨RX10, "sampleCount", "()I"⟩
abbrev cX10_costOf : ByteArray := prog_12_method_70_code
def yX10_costOf : MethodName := ⟨RX10, "costOf", "(II)I"⟩
abbrev cX10_sampleVerdict : ByteArray := prog_12_method_71_code
def yX10_sampleVerdict : MethodName := ⟨RX10, "sampleVerdict", "(II)I"⟩
abbrev cX10_costWith : ByteArray := prog_12_method_72_code
def yX10_costWith : MethodName := ⟨RX10, "costWith", "(I)I"⟩
abbrev cX10_sampleCost : ByteArray := prog_12_method_73_code
def yX10_sampleCost : MethodName := ⟨RX10, "sampleCost", "(I)I"⟩
abbrev cX10_bestMargin : ByteArray := prog_12_method_74_code
def yX10_bestMargin : MethodName := ⟨RX10, "bestMargin", "()I"⟩
abbrev cX10_calibrate : ByteArray := prog_12_method_75_code
def yX10_calibrate : MethodName := ⟨RX10, "calibrate", "(III)Z"⟩
abbrev cX10_setMargin : ByteArray := prog_12_method_76_code
def yX10_setMargin : MethodName := ⟨RX10, "setMargin", "(I)I"⟩
abbrev cX10_insert : ByteArray := prog_12_method_77_code
def yX10_insert : MethodName := ⟨RX10, "insert", "(II)I"⟩
abbrev cX10_takeFromHopper : ByteArray := prog_12_method_78_code
def yX10_takeFromHopper : MethodName := ⟨RX10, "takeFromHopper", "()V"⟩
abbrev cX10_takeFromLoop : ByteArray := prog_12_method_79_code
def yX10_takeFromLoop : MethodName := ⟨RX10, "takeFromLoop", "(I)V"⟩
abbrev cX10_note : ByteArray := prog_12_method_80_code
def yX10_note : MethodName := ⟨RX10, "note", "(I)V"⟩
abbrev cX10_isStep : ByteArray := prog_12_method_81_code
def yX10_isStep : MethodName := ⟨RX10, "isStep", "(I)Z"⟩
abbrev cX10_doStep : ByteArray := prog_12_method_82_code
def yX10_doStep : MethodName := ⟨RX10, "doStep", "(I)V"⟩
abbrev cX10_step : ByteArray := prog_12_method_83_code
def yX10_step : MethodName := ⟨RX10, "step", "()I"⟩
abbrev cX10_run : ByteArray := prog_12_method_84_code
def yX10_run : MethodName := ⟨RX10, "run", "(I)I"⟩
abbrev cX10_clearJam : ByteArray := prog_12_method_85_code
def yX10_clearJam : MethodName := ⟨RX10, "clearJam", "()Z"⟩
abbrev cX10_changeBag : ByteArray := prog_12_method_86_code
def yX10_changeBag : MethodName := ⟨RX10, "changeBag", "(I)I"⟩
abbrev cX10_audit : ByteArray := prog_12_method_87_code
def yX10_audit : MethodName := ⟨RX10, "audit", "(II)I"⟩
abbrev cX10_dispense : ByteArray := prog_12_method_88_code
def yX10_dispense : MethodName := ⟨RX10, "dispense", "(I)I"⟩
abbrev cX10_addSample : ByteArray := prog_12_method_89_code
def yX10_addSample : MethodName := ⟨RX10, "addSample", "(III)I"⟩
abbrev cX10_undo : ByteArray := prog_12_method_90_code
def yX10_undo : MethodName := ⟨RX10, "undo", "()I"⟩
abbrev cX10_saveSnapshot : ByteArray := prog_12_method_91_code
def yX10_saveSnapshot : MethodName := ⟨RX10, "saveSnapshot", "(I)Z"⟩
abbrev cX10_restoreSnapshot : ByteArray := prog_12_method_92_code
def yX10_restoreSnapshot : MethodName := ⟨RX10, "restoreSnapshot", "(I)Z"⟩
def RJ9 : String := "java/lang/Math"
abbrev cJ9_floorMod_7cf53 : ByteArray := prog_21_method_50_code
def yJ9_floorMod_7cf53 : MethodName := ⟨RJ9, "floorMod", "(II)I"⟩
abbrev cJ9_abs_0f7a4 : ByteArray := prog_21_method_59_code
def yJ9_abs_0f7a4 : MethodName := ⟨RJ9, "abs", "(I)I"⟩
abbrev cJ9_max_7cf53 : ByteArray := prog_21_method_65_code
def yJ9_max_7cf53 : MethodName := ⟨RJ9, "max", "(II)I"⟩
abbrev cJ9_min_7cf53 : ByteArray := prog_21_method_69_code
def yJ9_min_7cf53 : MethodName := ⟨RJ9, "min", "(II)I"⟩
def RJ0 : String := "java/lang/String"
abbrev cJ0_init_81219 : ByteArray := prog_24_method_53_code
def yJ0_init_81219 : MethodName := ⟨RJ0, "<init>", "(Ljava/lang/StringBuilder;)V"⟩
abbrev cJ0_length_8abf5 : ByteArray := prog_24_method_54_code
def yJ0_length_8abf5 : MethodName := ⟨RJ0, "length", "()I"⟩
abbrev cJ0_charAt_5068e : ByteArray := prog_24_method_56_code
def yJ0_charAt_5068e : MethodName := ⟨RJ0, "charAt", "(I)C"⟩
abbrev cJ0_getBytes_840e7 : ByteArray := prog_24_method_147_code
def yJ0_getBytes_840e7 : MethodName := ⟨RJ0, "getBytes", "([BIB)V"⟩
abbrev cJ0_init_db425 : ByteArray := prog_24_method_150_code
def yJ0_init_db425 : MethodName := ⟨RJ0, "<init>", "(Ljava/lang/AbstractStringBuilder;Ljava/lang/Void;)V"⟩
abbrev cJ0_coder_7d493 : ByteArray := prog_24_method_152_code
def yJ0_coder_7d493 : MethodName := ⟨RJ0, "coder", "()B"⟩
abbrev cJ0_isLatin1_aae02 : ByteArray := prog_24_method_154_code
def yJ0_isLatin1_aae02 : MethodName := ⟨RJ0, "isLatin1", "()Z"⟩
abbrev cJ0_checkIndex_df160 : ByteArray := prog_24_method_155_code
def yJ0_checkIndex_df160 : MethodName := ⟨RJ0, "checkIndex", "(II)V"⟩
abbrev cJ0_checkBoundsOffCount_cabcc : ByteArray := prog_24_method_157_code
def yJ0_checkBoundsOffCount_cabcc : MethodName := ⟨RJ0, "checkBoundsOffCount", "(III)I"⟩
abbrev cJ0_checkBoundsBeginEnd_23922 : ByteArray := prog_24_method_158_code
def yJ0_checkBoundsBeginEnd_23922 : MethodName := ⟨RJ0, "checkBoundsBeginEnd", "(III)V"⟩
def RJ1 : String := "java/lang/StringLatin1"
abbrev cJ1_charAt_3b067 : ByteArray := prog_26_method_2_code
def yJ1_charAt_3b067 : MethodName := ⟨RJ1, "charAt", "([BI)C"⟩
abbrev cJ1_inflate_0e8fd : ByteArray := prog_26_method_50_code
def yJ1_inflate_0e8fd : MethodName := ⟨RJ1, "inflate", "([BI[BII)V"⟩
def RJ2 : String := "java/lang/StringUTF16"
def RJ7 : String := "java/util/Arrays"
abbrev cJ7_rangeCheck_23922 : ByteArray := prog_30_method_30_code
def yJ7_rangeCheck_23922 : MethodName := ⟨RJ7, "rangeCheck", "(III)V"⟩
abbrev cJ7_fill_bad5a : ByteArray := prog_30_method_102_code
def yJ7_fill_bad5a : MethodName := ⟨RJ7, "fill", "([JIIJ)V"⟩
abbrev cJ7_fill_53178 : ByteArray := prog_30_method_103_code
def yJ7_fill_53178 : MethodName := ⟨RJ7, "fill", "([II)V"⟩
abbrev cJ7_fill_fda19 : ByteArray := prog_30_method_104_code
def yJ7_fill_fda19 : MethodName := ⟨RJ7, "fill", "([IIII)V"⟩
abbrev cJ7_copyOf_9075b : ByteArray := prog_30_method_121_code
def yJ7_copyOf_9075b : MethodName := ⟨RJ7, "copyOf", "([BI)[B"⟩
abbrev cJ7_checkLength_df160 : ByteArray := prog_30_method_131_code
def yJ7_checkLength_df160 : MethodName := ⟨RJ7, "checkLength", "(II)V"⟩
abbrev cJ7_copyOfRange_39247 : ByteArray := prog_30_method_132_code
def yJ7_copyOfRange_39247 : MethodName := ⟨RJ7, "copyOfRange", "([BII)[B"⟩
abbrev cJ7_copyOfRangeByte_39247 : ByteArray := prog_30_method_133_code
def yJ7_copyOfRangeByte_39247 : MethodName := ⟨RJ7, "copyOfRangeByte", "([BII)[B"⟩
def RJ3 : String := "jdk/internal/util/Preconditions"
abbrev cJ3_checkIndex_8e157 : ByteArray := prog_32_method_11_code
def yJ3_checkIndex_8e157 : MethodName := ⟨RJ3, "checkIndex", "(IILjava/util/function/BiFunction;)I"⟩
abbrev cJ3_checkFromToIndex_8c36e : ByteArray := prog_32_method_12_code
def yJ3_checkFromToIndex_8c36e : MethodName := ⟨RJ3, "checkFromToIndex", "(IIILjava/util/function/BiFunction;)I"⟩
abbrev cJ3_checkFromIndexSize_8c36e : ByteArray := prog_32_method_13_code
def yJ3_checkFromIndexSize_8c36e : MethodName := ⟨RJ3, "checkFromIndexSize", "(IIILjava/util/function/BiFunction;)I"⟩
def RL : String := "CoinSorterLaw"
abbrev cL_score : ByteArray := method_3_code
def yL_score : MethodName := ⟨RL, "score", "(LCoinSorter;III[J)I"⟩
abbrev cL_classify : ByteArray := method_4_code
def yL_classify : MethodName := ⟨RL, "classify", "(LCoinSorter;II[J)I"⟩
abbrev cL_audit : ByteArray := method_5_code
def yL_audit : MethodName := ⟨RL, "audit", "(LCoinSorter;II[J)I"⟩
abbrev cL_law : ByteArray := code
def yL_law : MethodName := ⟨RL, "law", "([I)Z"⟩
abbrev cl_L : List vw_C := [(RX0, TX0, 7), (RX1, TX1, 3), (RX2, TX2, 2), (RX3, TX3, 5), (RX4, TX4, 9), (RX5, TX5, 5), (RX6, TX6, 2), (RX7, TX7, 15), (RX8, TX8, 2), (RX9, TX9, 12), (RX10, TX10, 29)]
def jv_isNest : Cond → Bool
  | .fieldLinkNest _ _ _ _ _ _ => true
  | .methodLinkNest _ _ _ _ => true
  | _ => false
def gd_L : List Cond := lw_tbl.filter goodWord
def ns_L : List Cond := lw_tbl.filter jv_isNest
theorem gd_at (i : Nat) {w : Cond} (h : lw_tbl[i]? = some w) (g : goodWord w = true) : w ∈ gd_L := List.mem_filter.mpr ⟨List.mem_of_getElem? h, g⟩
theorem ns_at (i : Nat) {w : Cond} (h : lw_tbl[i]? = some w) (g : jv_isNest w = true) : w ∈ ns_L := List.mem_filter.mpr ⟨List.mem_of_getElem? h, g⟩
theorem gd_good {w : Cond} (h : w ∈ gd_L) : goodWord w = true := (List.mem_filter.mp h).2
theorem gd_ws {C : String} {T : u_T} {N : Nat} (is : List Nat) (h : u_ws C T N = is.filterMap (fun i => lw_tbl[i]?)) (hg : (u_ws C T N).all goodWord = true) : ∀ w ∈ u_ws C T N, w ∈ gd_L := by
  intro w hw
  have h1 := List.all_eq_true.mp hg w hw
  rw [h] at hw
  obtain ⟨i, -, hi⟩ := List.mem_filterMap.mp hw
  exact gd_at i hi h1
theorem uw_X0 : ∀ w ∈ u_ws RX0 TX0 7, w ∈ gd_L := gd_ws [252, 254, 256, 258, 260, 262, 264] (by decide +kernel) (by decide +kernel)
theorem uw_X1 : ∀ w ∈ u_ws RX1 TX1 3, w ∈ gd_L := gd_ws [691, 693, 695] (by decide +kernel) (by decide +kernel)
theorem uw_X2 : ∀ w ∈ u_ws RX2 TX2 2, w ∈ gd_L := gd_ws [707, 709] (by decide +kernel) (by decide +kernel)
theorem uw_X3 : ∀ w ∈ u_ws RX3 TX3 5, w ∈ gd_L := gd_ws [214, 216, 218, 220, 222] (by decide +kernel) (by decide +kernel)
theorem uw_X4 : ∀ w ∈ u_ws RX4 TX4 9, w ∈ gd_L := gd_ws [147, 149, 151, 153, 155, 157, 159, 161, 163] (by decide +kernel) (by decide +kernel)
theorem uw_X5 : ∀ w ∈ u_ws RX5 TX5 5, w ∈ gd_L := gd_ws [727, 729, 731, 733, 735] (by decide +kernel) (by decide +kernel)
theorem uw_X6 : ∀ w ∈ u_ws RX6 TX6 2, w ∈ gd_L := gd_ws [195, 197] (by decide +kernel) (by decide +kernel)
theorem uw_X7 : ∀ w ∈ u_ws RX7 TX7 15, w ∈ gd_L := gd_ws [647, 649, 651, 653, 655, 657, 659, 661, 663, 665, 667, 669, 671, 673, 675] (by decide +kernel) (by decide +kernel)
theorem uw_X8 : ∀ w ∈ u_ws RX8 TX8 2, w ∈ gd_L := gd_ws [749, 751] (by decide +kernel) (by decide +kernel)
theorem uw_X9 : ∀ w ∈ u_ws RX9 TX9 12, w ∈ gd_L := gd_ws [766, 768, 770, 772, 774, 776, 778, 780, 782, 784, 786, 788] (by decide +kernel) (by decide +kernel)
theorem uw_X10 : ∀ w ∈ u_ws RX10 TX10 29, w ∈ gd_L := gd_ws [1382, 1384, 1386, 1388, 1390, 1392, 1394, 1396, 1398, 1400, 1402, 1404, 1406, 1408, 1410, 1412, 1414, 1416, 1418, 1420, 1422, 1424, 1426, 1428, 1430, 1432, 1434, 1436, 1438] (by decide +kernel) (by decide +kernel)
end
section
section MPW
variable {p : Program} {l : Launch} {e : Env} {R : Room} {s : State} {m : MethodId} {args : Array Value} {below : List Frame} {meth : Method} {c : Code} {H : Heap} {locs : List Loc} {cells slots : Nat} {Q : State → Prop}
variable {cc : ByteArray} {pc : Nat} {ls : Array Slot} {rest : List Value} {D : va_G} {cl : List vw_C} {A : Nat → Prop} {a : Nat} {tys : List (ClassId × FieldType)} {ws : va_W} {H0 : Heap}
/-! stores, with the heap's size told: after the kit's va_put, va_putN, va_putF, va_iast .. -/
theorem mp_put (hexec : p.tables.exec = Jvm.exec) (hb : c.code = cc) {own ref C : String} {T : u_T} {N ci index : Nat} {Ts : List Cond} (hts : ∀ w ∈ Ts, w.before args s = true) (hin : ∀ w ∈ u_ws C T N, w ∈ Ts) (ty0 : Nat → FieldType) (hty : ∀ k, k < N → parseFieldDescriptor (T k).2.2.1 = some (ty0 k)) (hnm : ∀ a, a < N → ∀ b, b < N → a ≠ b → (T a).2.1 ≠ (T b).2.1) (hown : s.vm.findClass own = some m.cls) (hK : va_K D cl tys s) (hP : va_P D cl ws H) (hD : va_D A ws) (hS0 : va_S A H0 H locs) (q0 : Nat) {fs : List Value} (he : ws[q0]? = some (a, .inr (ci, fs))) (hc : cl[ci]? = some (C, T, N)) (k : Nat) (hk : k < N)
    (hlink : (Cond.fieldLink own index ref (T k).2.1 (T k).2.2.1).before args s = true ∨ ∃ host, (Cond.fieldLinkNest own index ref (T k).2.1 (T k).2.2.1 host).before args s = true) (hsame : ∀ x, s.fieldFound? (T k).1 (T k).2.1 (T k).2.2.1 = some x → s.fieldFound? ref (T k).2.1 (T k).2.2.1 = some x) (hfin : (T k).2.2.2 = false) {ty : FieldType} {v : Value} (hd : parseFieldDescriptor (T k).2.2.1 = some ty) (hn : narrow ty v = v) (hfit : fits ty v = true) (hl : k < fs.length)
    (hdg : decode cc pc = .ok (.putfield index, 3)) (kk : ∀ (H1 : Heap) (locs1 : List Loc), va_P D cl (ws.set q0 (a, .inr (ci, fs.set k v))) H1 → H1.size = H.size → va_S A H0 H1 locs1 → W p l e R s m args below meth c H1 locs1 cells slots Q (F0 m (pc + 3) ls rest)) : W p l e R s m args below meth c H locs cells slots Q (F0 m pc ls (v :: .ref a :: rest)) := by
  have hap := va_apart (own := own) hts hin ty0 hty hnm hK hc
  obtain ⟨r, h1, cell, q1, q2, q3, q4⟩ := hP q0 _ he
  have hr : r = (C, T, N) := Option.some.inj (h1.symm.trans hc)
  subst hr
  obtain ⟨hS, hfc, kC, hkC, hkind⟩ := hK.1 ci _ hc
  obtain ⟨cf, kf, fi, f, hi, hsl⟩ := hS k hk
  have hlay := hts _ (hin _ (u_in_lay hk))
  unfold u_lay at hlay
  rw [if_neg (by rw [hfin]; decide)] at hlay
  have hst := (u_facts hfc hkC (u_lays hts hin hk) hi).1
  have h6 := u_store hfc hkC hkind hlay hi hd hn hfit
  rcases hlink with hlink | ⟨host, hlink⟩
  · refine W.putK hexec hb (f := f) ⟨hown, hlink, ⟨_, _, _, hsame _ hi⟩, hst⟩ (by rw [q2]; exact h6) q1 q3 (by rw [hsl]; exact k2_hasslot (q4 k hk)) rfl rfl hdg fun H' e1 e2 e3 => ?_
    rw [hsl] at e1 ⊢
    exact kk H' _ (hP.set hD he ⟨_, hc, t_OB.to (V := updV (vp_V fs) k v) ⟨_, e1, q2, q3, t_set q4 hap hk v⟩ (fun j _ => vp_updV_set hl v j)⟩ e3) e2 (hS0.put e2 e3 (hD.2 q0 _ he))
  · refine va_WputK hexec hb (f := f) hown hlink (hsame _ hi) hst (by rw [q2]; exact h6) q1 q3 (by rw [hsl]; exact k2_hasslot (q4 k hk)) rfl rfl hdg fun H' e1 e2 e3 => ?_
    rw [hsl] at e1 ⊢
    exact kk H' _ (hP.set hD he ⟨_, hc, t_OB.to (V := updV (vp_V fs) k v) ⟨_, e1, q2, q3, t_set q4 hap hk v⟩ (fun j _ => vp_updV_set hl v j)⟩ e3) e2 (hS0.put e2 e3 (hD.2 q0 _ he))
theorem mp_putF (hexec : p.tables.exec = Jvm.exec) (hb : c.code = cc) {own ref C : String} {T : u_T} {N ci index : Nat} {Ts : List Cond} (hts : ∀ w ∈ Ts, w.before args s = true) (hin : ∀ w ∈ u_ws C T N, w ∈ Ts) (ty0 : Nat → FieldType) (hty : ∀ k, k < N → parseFieldDescriptor (T k).2.2.1 = some (ty0 k)) (hnm : ∀ a, a < N → ∀ b, b < N → a ≠ b → (T a).2.1 ≠ (T b).2.1) (hown : s.vm.findClass own = some m.cls) (hK : va_K D cl tys s) (hP : va_P D cl ws H) (hD : va_D A ws) (hS0 : va_S A H0 H locs) (q0 : Nat) {fs : List Value} (he : ws[q0]? = some (a, .inr (ci, fs))) (hc : cl[ci]? = some (C, T, N)) (k : Nat) (hk : k < N) (hlink : (Cond.fieldLink own index ref (T k).2.1 (T k).2.2.1).before args s = true) (hsame : ∀ x, s.fieldFound? (T k).1 (T k).2.1 (T k).2.2.1 = some x → s.fieldFound? ref (T k).2.1 (T k).2.2.1 = some x) (hfin : (T k).2.2.2 = true) (hin2 : meth.name = "<init>") (hdecl : (T k).1 = own) {ty : FieldType} {v : Value} (hd : parseFieldDescriptor (T k).2.2.1 = some ty) (hn : narrow ty v = v) (hfit : fits ty v = true) (hl : k < fs.length)
    (hdg : decode cc pc = .ok (.putfield index, 3)) (kk : ∀ (H1 : Heap) (locs1 : List Loc), va_P D cl (ws.set q0 (a, .inr (ci, fs.set k v))) H1 → H1.size = H.size → va_S A H0 H1 locs1 → W p l e R s m args below meth c H1 locs1 cells slots Q (F0 m (pc + 3) ls rest)) : W p l e R s m args below meth c H locs cells slots Q (F0 m pc ls (v :: .ref a :: rest)) := by
  have hap := va_apart (own := own) hts hin ty0 hty hnm hK hc
  obtain ⟨r, h1, cell, q1, q2, q3, q4⟩ := hP q0 _ he
  have hr : r = (C, T, N) := Option.some.inj (h1.symm.trans hc)
  subst hr
  obtain ⟨hS, hfc, kC, hkC, hkind⟩ := hK.1 ci _ hc
  obtain ⟨cf, kf, fi, f, hi, hsl⟩ := hS k hk
  have hlay := hts _ (hin _ (u_in_lay hk))
  unfold u_lay at hlay
  rw [if_pos hfin] at hlay
  have hst := (u_facts hfc hkC (u_lays hts hin hk) hi).1
  have hcf : m.cls = cf := by
    obtain ⟨_, _, c', _, _, _, -, -, hf', -, -, -, hown2, -⟩ := Cond.laysFinal_spec hlay
    have e1 : c' = cf := by have := hi.symm.trans hf'; simp at this; exact this.1.symm
    rw [hdecl] at hown2
    rw [← e1]; exact Option.some.inj (hown.symm.trans hown2)
  have h6 := u_fits hfc hkC hkind (Or.inr hlay) hi hd hn hfit
  refine W.putFinK hexec hb hown hlink (hsame _ hi) hst hcf hin2 (by rw [q2]; exact h6) q1 q3 (by rw [hsl]; exact k2_hasslot (q4 k hk)) rfl rfl hdg fun H' e1 e2 e3 => ?_
  rw [hsl] at e1 ⊢
  exact kk H' _ (hP.set hD he ⟨_, hc, t_OB.to (V := updV (vp_V fs) k v) ⟨_, e1, q2, q3, t_set q4 hap hk v⟩ (fun j _ => vp_updV_set hl v j)⟩ e3) e2 (hS0.put e2 e3 (hD.2 q0 _ he))
theorem mp_iast (hexec : p.tables.exec = Jvm.exec) (hb : c.code = cc) (hK : va_K D cl tys s) (hP : va_P D cl ws H) (hD : va_D A ws) (hS : va_S A H0 H locs) (q0 t0 : Nat) {cA : ClassId} {n : Nat} {f : Nat → Int32} (ha : ws[q0]? = some (a, .inl (cA, n, .inl f))) (ht : tys[t0]? = some (cA, .int)) {i : Int32} {x : Int32} (hin : vp_in i n) (hdg : decode cc pc = .ok (.iastore, 1))
    (kk : ∀ (H1 : Heap) (locs1 : List Loc), va_P D cl (ws.set q0 (a, .inl (cA, n, .inl (upd f i.toNatClampNeg x)))) H1 → H1.size = H.size → va_S A H0 H1 locs1 → W p l e R s m args below meth c H1 locs1 cells slots Q (F0 m (pc + 1) ls rest)) : W p l e R s m args below meth c H locs cells slots Q (F0 m pc ls (.int x :: .int i :: .ref a :: rest)) := by
  refine W.iast hexec hb (hP q0 _ ha) ((hK.2 t0 _ ht).1 n (fun j => .int (f j))) (fun q => by cases q) (by show ¬ (i < 0 ∨ (arrV _ _ _).slots.size ≤ _); rw [arrV_size]; exact hin) rfl rfl hdg fun H1 e z oq => ?_
  refine kk H1 _ (hP.set hD ha ?_ oq) z (hS.put z oq (hD.2 q0 _ ha))
  show H1[a]? = some (vp_cell _ _)
  rw [e]
  rw [vp_cell_i, vp_cell_i, arrV_store]
  congr 2
  funext q
  by_cases hq : q = i.toNatClampNeg
  · subst hq
    simp [updV, upd]
  · simp [updV, upd, hq]
theorem mp_bast (hexec : p.tables.exec = Jvm.exec) (hb : c.code = cc) (hK : va_K D cl tys s) (hP : va_P D cl ws H) (hD : va_D A ws) (hS : va_S A H0 H locs) (q0 t0 : Nat) {cA : ClassId} {n : Nat} {f : Nat → Int32} (ha : ws[q0]? = some (a, .inl (cA, n, .inl f))) (ht : tys[t0]? = some (cA, .byte)) {i : Int32} {x : Int32} (hin : vp_in i n) (hdg : decode cc pc = .ok (.bastore, 1))
    (kk : ∀ (H1 : Heap) (locs1 : List Loc), va_P D cl (ws.set q0 (a, .inl (cA, n, .inl (upd f i.toNatClampNeg (vp_nar .byte x))))) H1 → H1.size = H.size → va_S A H0 H1 locs1 → W p l e R s m args below meth c H1 locs1 cells slots Q (F0 m (pc + 1) ls rest)) : W p l e R s m args below meth c H locs cells slots Q (F0 m pc ls (.int x :: .int i :: .ref a :: rest)) := by
  refine W.bast hexec hb (hP q0 _ ha) ((hK.2 t0 _ ht).1 n (fun j => .int (f j))) (fun q => by cases q) (by show ¬ (i < 0 ∨ (arrV _ _ _).slots.size ≤ _); rw [arrV_size]; exact hin) rfl rfl hdg fun H1 e z oq => ?_
  refine kk H1 _ (hP.set hD ha ?_ oq) z (hS.put z oq (hD.2 q0 _ ha))
  show H1[a]? = some (vp_cell _ _)
  rw [e]
  rw [vp_cell_i, vp_cell_i, arrV_store]
  congr 2
  funext q
  by_cases hq : q = i.toNatClampNeg
  · subst hq
    simp [updV, upd, vp_nar]
    try rfl
  · simp [updV, upd, hq]
theorem mp_zast (hexec : p.tables.exec = Jvm.exec) (hb : c.code = cc) (hK : va_K D cl tys s) (hP : va_P D cl ws H) (hD : va_D A ws) (hS : va_S A H0 H locs) (q0 t0 : Nat) {cA : ClassId} {n : Nat} {f : Nat → Int32} (ha : ws[q0]? = some (a, .inl (cA, n, .inl f))) (ht : tys[t0]? = some (cA, .boolean)) {i : Int32} {x : Int32} (hin : vp_in i n) (hdg : decode cc pc = .ok (.bastore, 1))
    (kk : ∀ (H1 : Heap) (locs1 : List Loc), va_P D cl (ws.set q0 (a, .inl (cA, n, .inl (upd f i.toNatClampNeg (vp_nar .boolean x))))) H1 → H1.size = H.size → va_S A H0 H1 locs1 → W p l e R s m args below meth c H1 locs1 cells slots Q (F0 m (pc + 1) ls rest)) : W p l e R s m args below meth c H locs cells slots Q (F0 m pc ls (.int x :: .int i :: .ref a :: rest)) := by
  refine W.zast hexec hb (hP q0 _ ha) ((hK.2 t0 _ ht).1 n (fun j => .int (f j))) (fun q => by cases q) (by show ¬ (i < 0 ∨ (arrV _ _ _).slots.size ≤ _); rw [arrV_size]; exact hin) rfl rfl hdg fun H1 e z oq => ?_
  refine kk H1 _ (hP.set hD ha ?_ oq) z (hS.put z oq (hD.2 q0 _ ha))
  show H1[a]? = some (vp_cell _ _)
  rw [e]
  rw [vp_cell_i, vp_cell_i, arrV_store]
  congr 2
  funext q
  by_cases hq : q = i.toNatClampNeg
  · subst hq
    simp [updV, upd, vp_nar]
    try rfl
  · simp [updV, upd, hq]
theorem mp_last (hexec : p.tables.exec = Jvm.exec) (hb : c.code = cc) (hK : va_K D cl tys s) (hP : va_P D cl ws H) (hD : va_D A ws) (hS : va_S A H0 H locs) (q0 t0 : Nat) {cA : ClassId} {n : Nat} {f : Nat → Int64} (ha : ws[q0]? = some (a, .inl (cA, n, .inr (.inl f)))) (ht : tys[t0]? = some (cA, .long)) {i : Int32} {x : Int64} (hin : vp_in i n) (hdg : decode cc pc = .ok (.lastore, 1))
    (kk : ∀ (H1 : Heap) (locs1 : List Loc), va_P D cl (ws.set q0 (a, .inl (cA, n, .inr (.inl (vp_updL f i.toNatClampNeg x))))) H1 → H1.size = H.size → va_S A H0 H1 locs1 → W p l e R s m args below meth c H1 locs1 cells slots Q (F0 m (pc + 1) ls rest)) : W p l e R s m args below meth c H locs cells slots Q (F0 m pc ls (.long x :: .int i :: .ref a :: rest)) := by
  refine W.last hexec hb (hP q0 _ ha) ((hK.2 t0 _ ht).1 n (fun j => .long (f j))) (fun q => by cases q) (by show ¬ (i < 0 ∨ (arrV _ _ _).slots.size ≤ _); rw [arrV_size]; exact hin) rfl rfl hdg fun H1 e z oq => ?_
  refine kk H1 _ (hP.set hD ha ?_ oq) z (hS.put z oq (hD.2 q0 _ ha))
  show H1[a]? = some (vp_cell _ _)
  rw [e]
  rw [vp_cell_l, vp_cell_l, arrV_store]
  congr 2
  funext q
  by_cases hq : q = i.toNatClampNeg
  · subst hq
    simp [updV, vp_updL]
  · simp [updV, vp_updL, hq]
theorem mp_astq (hexec : p.tables.exec = Jvm.exec) (hb : c.code = cc) (hK : va_K D cl tys s) (hP : va_P D cl ws H) (hD : va_D A ws) (hS : va_S A H0 H locs) (q0 t0 qk ci : Nat) {cA : ClassId} {r : vw_C} {n v : Nat} {vs : List Value} {f : Nat → Option Nat} (ha : ws[q0]? = some (a, .inl (cA, n, .inr (.inr (.inr (.inr f)))))) (ht : tys[t0]? = some (cA, .object r.1)) (hv : ws[qk]? = some (v, .inr (ci, vs))) (hc : cl[ci]? = some r) {i : Int32} (hin : vp_in i n) (hdg : decode cc pc = .ok (.aastore, 1))
    (kk : ∀ (H1 : Heap) (locs1 : List Loc), va_P D cl (ws.set q0 (a, .inl (cA, n, .inr (.inr (.inr (.inr (va_up f i.toNatClampNeg (some v)))))))) H1 → H1.size = H.size → va_S A H0 H1 locs1 → W p l e R s m args below meth c H1 locs1 cells slots Q (F0 m (pc + 1) ls rest)) : W p l e R s m args below meth c H locs cells slots Q (F0 m pc ls (.ref v :: .int i :: .ref a :: rest)) := by
  have hlt : i.toNatClampNeg < n := Nat.not_le.mp fun q => hin (Or.inr q)
  have h0 : ¬ i < 0 := fun q => hin (Or.inl q)
  obtain ⟨r', hr', cellV, g1, g2, g3, -⟩ := hP qk _ hv
  have hcls := (hK.1 ci r hc).2
  obtain ⟨kA, comp, k1, k2, k3, -⟩ := (hK.2 t0 _ ht).2
  have hcomp : comp = D.1 ci := Option.some.inj (k3.symm.trans hcls.1)
  subst hcomp
  obtain ⟨kC, hkC, -⟩ := hcls.2
  refine W.aast hexec hb (hP q0 _ ha) (fun q h => by cases h) (fun h => by cases h) k1 k2 rfl hkC ⟨h0, by show _ < (arrV _ _ _).slots.size; rw [arrV_size]; exact hlt⟩ g1 (fun q h => by rw [g3] at h; cases h) (by rw [g2]; exact hkC) (by rw [g2]; exact va_assign hcls) rfl rfl hdg fun H1 e z oq => ?_
  refine kk H1 _ (hP.set hD ha ?_ oq) z (hS.put z oq (hD.2 q0 _ ha))
  show H1[a]? = some (vp_cell _ _)
  rw [e]
  rw [vp_cell_q, vp_cell_q, arrV_store]
  congr 2
  funext q
  by_cases hq : q = i.toNatClampNeg
  · subst hq
    simp [updV, va_up, va_rf]
  · simp [updV, va_up, hq]
theorem mp_copyi (hexec : p.tables.exec = Jvm.exec) (hb : c.code = cc) (hml : c.maxLocals = ls.size) {own : String} {index : Nat} (hown : s.vm.findClass own = some m.cls) (hlink : (Cond.methodLink own index arraycopyName).before args s = true) (hnat : (Cond.native arraycopyName).before args s = true) (hstat : (Cond.static arraycopyName).before args s = true) (hini : (Cond.initialized "java/lang/System").before args s = true)
    (hK : va_K D cl tys s) (hP : va_P D cl ws H) (hD : va_D A ws) (hS : va_S A H0 H locs) (q0 q1 t0 t1 : Nat) {a0 : Nat} {c0 c1 : ClassId} {n0 n1 : Nat} {f g : Nat → Int32} {ty : FieldType} (ha0 : ws[q0]? = some (a0, .inl (c0, n0, .inl f))) (ha1 : ws[q1]? = some (a, .inl (c1, n1, .inl g))) (ht0 : tys[t0]? = some (c0, ty)) (ht1 : tys[t1]? = some (c1, ty)) (hprim : refKind ty = false)
    {sp dp n : Int32} (h1 : ¬ sp < 0) (h2 : ¬ dp < 0) (h3 : ¬ n < 0) (h4 : sp.toNatClampNeg + n.toNatClampNeg ≤ n0) (h5 : dp.toNatClampNeg + n.toNatClampNeg ≤ n1) (hfit : ∀ i, i < n.toNatClampNeg → fits ty (.int (f (sp.toNatClampNeg + i))) = true)
    (hframes : 1 ≤ R.frames) (hlocals : (rest.map fun v => v.category).sum + (nativeFrameWords "java/lang/System" "arraycopy" 5 + 11) ≤ R.locals) (hdg : decode cc pc = .ok (.invokestatic index, 3))
    (kk : ∀ (H1 : Heap) (locs1 : List Loc), va_P D cl (ws.set q1 (a, .inl (c1, n1, .inl (va_cpy f g sp.toNatClampNeg dp.toNatClampNeg n.toNatClampNeg)))) H1 → H1.size = H.size → va_S A H0 H1 locs1 → W p l e R s m args below meth c H1 locs1 cells slots Q (F0 m (pc + 3) ls rest)) : W p l e R s m args below meth c H locs cells slots Q (F0 m pc ls (.int n :: .int dp :: .ref a :: .int sp :: .ref a0 :: rest)) := by
  have nn : ∀ z : Int32, ¬ z < 0 → z.toInt = (z.toNatClampNeg : Int) := by
    intro z hz
    have hz0 : (0 : Int) ≤ z.toInt := by
      have := Int32.not_lt.mp hz
      simpa using Int32.le_iff_toInt_le.mp this
    show z.toInt = ((z.toInt.toNat : Nat) : Int)
    omega
  intro T hT X
  have hc0 : H[a0]? = some (vp_cell c0 (n0, .inl f)) := hP q0 _ ha0
  have hc1 : H[a]? = some (vp_cell c1 (n1, .inl g)) := hP q1 _ ha1
  obtain ⟨-, k0, hk0, cm0, hkk0⟩ := (hK.2 t0 _ ht0).1 n0 (fun j => .int (f j))
  obtain ⟨-, k1, hk1, cm1, hkk1⟩ := (hK.2 t1 _ ht1).1 n1 (fun j => .int (g j))
  obtain ⟨vm', X', step⟩ := X.arraycopy hexec hown hlink hnat hstat hini (src := a0) (dst := a) (cs := vp_cell c0 (n0, .inl f)) (cd := vp_cell c1 (n1, .inl g)) (srcPos := sp) (destPos := dp) (n := n) (by rw [hT]; exact hc0) (by rw [hT]; exact hc1)
    (fun _ h => by cases h) (fun _ h => by cases h) (fun h => by cases h) (fun h => by cases h) hk0 hk1 hkk0 hkk1 (by simp [hprim]) h1 h2 h3
    (by rw [nn sp h1, nn n h3]; show ¬ _ > ((arrV c0 n0 (fun j => .int (f j))).slots.size : Int); rw [arrV_size]; omega)
    (by rw [nn dp h2, nn n h3]; show ¬ _ > ((arrV c1 n1 (fun j => .int (g j))).slots.size : Int); rw [arrV_size]; omega)
    (fun vm₁ _ i hi => by
      have e : (vp_cell c0 (n0, .inl f)).slots.getD (sp.toNatClampNeg + i) .null = .int (f (sp.toNatClampNeg + i)) := by
        show (arrV c0 n0 (fun j => .int (f j))).slots.getD _ _ = _
        rw [Array.getD_eq_getD_getElem?, arrV_read _ _ (by omega)]
        rfl
      refine ⟨?_, ?_⟩
      · rw [e]
        exact hfit i hi
      · rw [e]
        exact trivial)
    (g := F0 m pc ls (.int n :: .int dp :: .ref a :: .int sp :: .ref a0 :: rest)) rfl (by rw [hml]) (rest := rest) rfl (by rw [hb]; exact hdg) hframes (by show 2 * 0 + _ + _ ≤ _; omega)
  have e1 : copied (vp_cell c0 (n0, .inl f)) (vp_cell c1 (n1, .inl g)) sp dp n = vp_cell c1 (n1, .inl (va_cpy f g sp.toNatClampNeg dp.toNatClampNeg n.toNatClampNeg)) := va_copied (fun z => .int z) c0 c1 f g h4
  rw [e1] at X' step
  have hl : a < H.size := (Array.getElem?_eq_some_iff.mp hc1).1
  have hheap : ((T.setVm vm').setCell a (vp_cell c1 (n1, .inl (va_cpy f g sp.toNatClampNeg dp.toNatClampNeg n.toNatClampNeg)))).heap = H.setIfInBounds a (vp_cell c1 (n1, .inl (va_cpy f g sp.toNatClampNeg dp.toNatClampNeg n.toNatClampNeg))) := by rw [← hT]; rfl
  have oq : ∀ q : Nat, q ≠ a → (H.setIfInBounds a (vp_cell c1 (n1, .inl (va_cpy f g sp.toNatClampNeg dp.toNatClampNeg n.toNatClampNeg))))[q]? = H[q]? := fun q hq => by simp [Array.getElem?_setIfInBounds, Ne.symm hq]
  obtain ⟨t, a1, b1⟩ := kk _ _ (hP.set hD ha1 (show (H.setIfInBounds a _)[a]? = some _ by simp [Array.getElem?_setIfInBounds, hl]) oq) (by simp) ⟨by simp; exact hS.1, fun q g1 g2 => by
      rw [oq q (fun e => g2 (by rw [e]; exact hD.2 q1 _ ha1))]
      exact hS.2.1 q g1 g2, fun q hq => by
      rcases List.mem_append.mp hq with h | h
      · exact hS.2.2 q h
      · obtain ⟨z, -, hz⟩ := List.mem_map.mp h
        rw [← hz]
        exact hD.2 q1 _ ha1⟩ _ hheap X'
  exact ⟨t, step t a1, b1⟩
theorem mp_new (hexec : p.tables.exec = Jvm.exec) (hb : c.code = cc) {own C : String} {T : u_T} {N ci index : Nat} {Ts : List Cond} (hts : ∀ w ∈ Ts, w.before args s = true) (hin : ∀ w ∈ u_ws C T N, w ∈ Ts) (ty : Nat → FieldType) (hty : ∀ k, k < N → parseFieldDescriptor (T k).2.2.1 = some (ty k)) (hown : s.vm.findClass own = some m.cls) (hcl : (Cond.classLink own index C).before args s = true) (hinst : (Cond.instantiable C N).before args s = true) (hini : (Cond.initialized C).before args s = true)
    (hK : va_K D cl tys s) (hP : va_P D cl ws H) (hS : va_S A H0 H locs) (hc : cl[ci]? = some (C, T, N)) {fs : List Value} (hfs : ∀ j, j < N → defaultValue (ty j) = vp_V fs j) (hcells : cells + 1 ≤ R.cells) (hslots : slots + N ≤ R.slots) (hdg : decode cc pc = .ok (.new index, 3))
    (kk : ∀ (H1 : Heap), va_P D cl (ws ++ [(H.size, .inr (ci, fs))]) H1 → H1.size = H.size + 1 → va_S A H0 H1 locs →
      W p l e R s m args below meth c H1 locs (cells + 1) (slots + N) Q (F0 m (pc + 3) ls (.ref H.size :: rest))) : W p l e R s m args below meth c H locs cells slots Q (F0 m pc ls rest) := by
  have hKn := hK.1 ci _ hc
  refine W.newcK hexec hb hown hcl hinst hini rfl hdg hcells hslots hKn.2.1 rfl fun H1 kC hkC e1 z1 o1 => ?_
  have hk : ∀ (k : Nat) (x : Nat × va_E), ws[k]? = some x → H1[x.1]? = H[x.1]? := fun k x hx => o1 x.1 ((hP k x hx).lt)
  refine kk H1 ((hP.kept hk).app (fun k x hx => ?_)) z1 ⟨Nat.le_trans hS.1 (by omega), fun x h1 h2 => (o1 x (Nat.lt_of_lt_of_le h1 hS.1)).trans (hS.2.1 x h1 h2), hS.2.2⟩
  have hz : k < 1 := (List.getElem?_eq_some_iff.mp hx).1
  rw [show k = 0 by omega] at hx
  cases hx
  exact ⟨_, hc, (u_born ty hts hin hKn hkC e1 hty).to hfs⟩
theorem mp_newa (hexec : p.tables.exec = Jvm.exec) (hb : c.code = cc) {atype : ArrayType} (harr : (Cond.arrayClass (newarray.typeOf atype)).before args s = true) {ty : FieldType} (hty : newarray.typeOf atype = ty) (hP : va_P D cl ws H) (hS : va_S A H0 H locs) {cA : ClassId} (hcA : s.vm.findClass ("[" ++ ty.toString) = some cA)
    {n : Int32} {N' : Nat} {a0 : vp_A} (ha : ∀ cA : ClassId, vp_cell cA a0 = arrV cA N' (fun _ => defaultValue ty)) (hn : ¬ n < 0) (hN : n.toNatClampNeg = N') (hbytes : N' * componentBytes ty ≤ 536870912) (hcells : cells + 1 ≤ R.cells) (hslots : slots + N' ≤ R.slots) (hdg : decode cc pc = .ok (.newarray atype, 2))
    (kk : ∀ (H1 : Heap), va_P D cl (ws ++ [(H.size, .inl (cA, a0))]) H1 → H1.size = H.size + 1 → va_S A H0 H1 locs →
      W p l e R s m args below meth c H1 locs (cells + 1) (slots + N') Q (F0 m (pc + 2) ls (.ref H.size :: rest))) : W p l e R s m args below meth c H locs cells slots Q (F0 m pc ls (.int n :: rest)) := by
  subst hty
  refine va_newaK hexec hb harr rfl hdg rfl hn hN hbytes hcells hslots rfl fun H1 cA' e1 z1 o1 hAr hNm => ?_
  have hcc : cA' = cA := Option.some.inj (hNm.symm.trans hcA)
  subst hcc
  have hk : ∀ (k : Nat) (x : Nat × va_E), ws[k]? = some x → H1[x.1]? = H[x.1]? := fun k x hx => o1 x.1 ((hP k x hx).lt)
  refine kk H1 ((hP.kept hk).app (fun k x hx => ?_)) z1 ⟨Nat.le_trans hS.1 (by omega), fun x h1 h2 => (o1 x (Nat.lt_of_lt_of_le h1 hS.1)).trans (hS.2.1 x h1 h2), hS.2.2⟩
  have hz : k < 1 := (List.getElem?_eq_some_iff.mp hx).1
  rw [show k = 0 by omega] at hx
  cases hx
  show H1[H.size]? = some (vp_cell _ _)
  rw [ha]
  exact e1
theorem mp_newq (hexec : p.tables.exec = Jvm.exec) (hb : c.code = cc) {own C : String} {index : Nat} (hown : s.vm.findClass own = some m.cls) (hclink : (Cond.classLink own index C).before args s = true) (hover : (Cond.arrayOver (.object C)).before args s = true) (hP : va_P D cl ws H) (hS : va_S A H0 H locs) {cA : ClassId} (hcA : s.vm.findClass ("[" ++ (FieldType.object C).toString) = some cA)
    {n : Int32} {N' : Nat} (hn : ¬ n < 0) (hN : n.toNatClampNeg = N') (hbytes : N' * 4 ≤ 536870912) (hcells : cells + 1 ≤ R.cells) (hslots : slots + N' ≤ R.slots) (hdg : decode cc pc = .ok (.anewarray index, 3))
    (kk : ∀ (H1 : Heap), va_P D cl (ws ++ [(H.size, .inl (cA, N', .inr (.inr (.inr (.inr (fun _ => none))))))]) H1 → H1.size = H.size + 1 → va_S A H0 H1 locs →
      W p l e R s m args below meth c H1 locs (cells + 1) (slots + N') Q (F0 m (pc + 3) ls (.ref H.size :: rest))) : W p l e R s m args below meth c H locs cells slots Q (F0 m pc ls (.int n :: rest)) := by
  subst hN
  refine W.anew hexec hb hown hclink hover rfl hdg rfl hn hbytes hcells hslots fun cA' kA comp f1 f2 f3 f4 => ?_
  have hcc : cA' = cA := Option.some.inj (f1.symm.trans hcA)
  subst hcc
  generalize hH1 : H.push ({ cls := cA', slots := Array.replicate n.toNatClampNeg .null, vm := .none } : Cell) = H1
  have z1 : H1.size = H.size + 1 := by rw [← hH1, Array.size_push]
  have e1 : H1[H.size]? = some (arrV cA' n.toNatClampNeg (fun _ => .null)) := by rw [← hH1, Array.getElem?_push_size, ← arrV_new]
  have o1 : ∀ q : Nat, q < H.size → H1[q]? = H[q]? := fun q hq => by rw [← hH1, Array.getElem?_push, if_neg (Nat.ne_of_lt hq)]
  have hk : ∀ (k : Nat) (x : Nat × va_E), ws[k]? = some x → H1[x.1]? = H[x.1]? := fun k x hx => o1 x.1 ((hP k x hx).lt)
  refine kk H1 ((hP.kept hk).app (fun k x hx => ?_)) z1 ⟨Nat.le_trans hS.1 (by omega), fun x h1 h2 => (o1 x (Nat.lt_of_lt_of_le h1 hS.1)).trans (hS.2.1 x h1 h2), hS.2.2⟩
  have hz : k < 1 := (List.getElem?_eq_some_iff.mp hx).1
  rw [show k = 0 by omega] at hx
  cases hx
  exact e1
end MPW
end
section
/-! THE SMALL HEAP: a list of cells, addresses counted from the law's start; its judgement JJ; a row for each instruction -/
abbrev mE : Type := (Nat × vp_A) ⊕ (Nat × List Value)
abbrev Mem : Type := List mE
/-- the world: the heap at the law's start, the addresses of the string constants, the array classes, the classes -/
abbrev Wd : Type := Heap × (Nat → Nat) × (Nat → ClassId) × va_G
def wz (ω : Wd) : Nat := ω.1.size
def sh (ω : Wd) : Value → Value
  | .ref a => .ref (wz ω + a)
  | .float j => .ref (ω.2.1 j.toNat)
  | v => v
def shA (ω : Wd) : vp_A → vp_A
  | (n, .inr (.inr (.inr (.inr f)))) => (n, .inr (.inr (.inr (.inr (fun j => (f j).map (fun a => wz ω + a))))))
  | a => a
def shE (ω : Wd) : mE → va_E
  | .inl (t, a) => .inl (ω.2.2.1 t, shA ω a)
  | .inr (c, fs) => .inr (c, fs.map (sh ω))
def toW (ω : Wd) (M : Mem) : va_W := M.mapIdx (fun i e => (wz ω + i, shE ω e))
def shL (ω : Wd) (lv : List (Nat × Value)) : List (Nat × Value) := lv.map (fun q => (q.1, sh ω q.2))
abbrev ty_L (ω : Wd) : List (ClassId × FieldType) := [(ω.2.2.1 0, .int), (ω.2.2.1 1, .long), (ω.2.2.1 2, .byte), (ω.2.2.1 3, .boolean), (ω.2.2.1 4, .object "CoinSorter$State")]
def KW (ω : Wd) (U : State) : Prop := va_K ω.2.2.2 cl_L (ty_L ω) U ∧ ∀ w ∈ ns_L, va_Nw w U
abbrev mA (ω : Wd) : Nat → Prop := fun q => wz ω ≤ q
theorem sh_cat (ω : Wd) (v : Value) : (sh ω v).category = v.category := by cases v <;> rfl
theorem toW_at {ω : Wd} {M : Mem} {a : Nat} {e : mE} (h : M[a]? = some e) : (toW ω M)[a]? = some (wz ω + a, shE ω e) := by
  simp [toW, List.getElem?_mapIdx, h]
theorem toW_inv {ω : Wd} {M : Mem} {a : Nat} {q : Nat × va_E} (h : (toW ω M)[a]? = some q) : ∃ e, M[a]? = some e ∧ q = (wz ω + a, shE ω e) := by
  simp only [toW, List.getElem?_mapIdx, Option.map_eq_some_iff] at h
  obtain ⟨e, h1, h2⟩ := h
  exact ⟨e, h1, h2.symm⟩
theorem toW_set {ω : Wd} {M : Mem} {a : Nat} {e : mE} : (toW ω M).set a (wz ω + a, shE ω e) = toW ω (M.set a e) := by
  apply List.ext_getElem?
  intro i
  by_cases h : a = i
  · subst h
    simp only [toW, List.getElem?_set, List.getElem?_mapIdx, List.length_mapIdx]
    by_cases h2 : a < M.length
    · simp [h2]
    · simp [h2]
  · simp [toW, List.getElem?_set, List.getElem?_mapIdx, h]
theorem toW_app {ω : Wd} {M : Mem} {e : mE} : toW ω (M ++ [e]) = toW ω M ++ [(wz ω + M.length, shE ω e)] := by
  simp [toW, List.mapIdx_append]
theorem toW_D {ω : Wd} {M : Mem} : va_D (mA ω) (toW ω M) := by
  refine ⟨fun i j p q hi hj hpq => ?_, fun k q hk => ?_⟩
  · obtain ⟨e1, -, rfl⟩ := toW_inv hi
    obtain ⟨e2, -, rfl⟩ := toW_inv hj
    have : wz ω + i = wz ω + j := hpq
    omega
  · obtain ⟨e1, -, rfl⟩ := toW_inv hk
    exact Nat.le_add_right _ _
theorem shL_at {ω : Wd} {lv : List (Nat × Value)} {j : Nat} {q : Nat × Value} (h : lv[j]? = some q) : (shL ω lv)[j]? = some (q.1, sh ω q.2) := by
  simp [shL, h]
theorem shL_filter1 {ω : Wd} {i : Nat} {v : Value} {lv : List (Nat × Value)} : (i, sh ω v) :: (shL ω lv).filter (fun q => !(q.1 == i) && !(q.1 + 1 == i && q.2.category == 2)) = shL ω ((i, v) :: lv.filter (fun q => !(q.1 == i) && !(q.1 + 1 == i && q.2.category == 2))) := by
  simp only [shL, List.map_cons, List.filter_map]
  congr 2
  apply List.filter_congr
  intro q _
  simp [Function.comp, sh_cat]
theorem shL_filter2 {ω : Wd} {i : Nat} {v : Value} {lv : List (Nat × Value)} : (i, sh ω v) :: (shL ω lv).filter (fun q => !(q.1 == i) && (!(q.1 == i + 1) && !(q.1 + 1 == i && q.2.category == 2))) = shL ω ((i, v) :: lv.filter (fun q => !(q.1 == i) && (!(q.1 == i + 1) && !(q.1 + 1 == i && q.2.category == 2)))) := by
  simp only [shL, List.map_cons, List.filter_map]
  congr 2
  apply List.filter_congr
  intro q _
  simp [Function.comp, sh_cat]
theorem shL_pick {ω : Wd} {lv : List (Nat × Value)} {ks : List Nat} : lv_pick (shL ω lv) ks = shL ω (lv_pick lv ks) := by
  simp only [lv_pick, shL, List.map_filterMap]
  congr 1
  funext k
  simp
theorem shL_args {ω : Wd} : ∀ (vs : List Value) (i : Nat), lv_args i (vs.map (sh ω)) = shL ω (lv_args i vs)
  | [], _ => rfl
  | v :: vs, i => by
    simp only [List.map_cons, lv_args, shL, sh_cat]
    congr 1
    exact shL_args vs _
theorem KW.warm {ω : Wd} {s U : State} (h : KW ω s) (hW : s.WarmedH U.vm) : KW ω U := by
  refine ⟨h.1.moved hW.alike, fun w hw => ?_⟩
  have h1 := h.2 w hw
  have h2 := (List.mem_filter.mp hw).2
  cases w <;> first | exact va_Nw.warmF hW h1 | exact va_Nw.warmM hW h1 | (simp [jv_isNest] at h2)
theorem KW.calling {ω : Wd} {U : State} {g : JFrame} {mk : MethodId} {a : Array Value} (h : KW ω U) : KW ω (U.calling g mk a) := by
  refine ⟨va_K.moved (u := U) (U := U.calling g mk a) (Vm.Alike.refl U.vm) h.1, fun w hw => ?_⟩
  have h1 := h.2 w hw
  have h2 := (List.mem_filter.mp hw).2
  refine va_Nw.same (u := U) (U := U.calling g mk a) ?_ rfl h1
  cases w <;> first | rfl | (simp [jv_isNest] at h2)
/-! reading and writing the small heap -/
def mm_gV (M : Mem) (a ci j : Nat) : Option Value := match M[a]? with
  | some (.inr (c, fs)) => if c = ci then fs[j]? else none
  | _ => none
def mm_gI (M : Mem) (a ci j : Nat) : Option Int32 := match mm_gV M a ci j with
  | some (.int v) => some v
  | _ => none
def mm_gL (M : Mem) (a ci j : Nat) : Option Int64 := match mm_gV M a ci j with
  | some (.long v) => some v
  | _ => none
def mm_gR (M : Mem) (a ci j : Nat) : Option Nat := match mm_gV M a ci j with
  | some (.ref v) => some v
  | _ => none
def mm_ck (M : Mem) (a ci : Nat) : Option Unit := match M[a]? with
  | some (.inr (c, _)) => if c = ci then some () else none
  | _ => none
def mm_pV (M : Mem) (a ci j : Nat) (v : Value) : Option Mem := match M[a]? with
  | some (.inr (c, fs)) => if c = ci ∧ j < fs.length then some (M.set a (.inr (c, fs.set j v))) else none
  | _ => none
def mm_pZ (M : Mem) (a ci j : Nat) (v : Int32) : Option Mem := if v = 0 ∨ v = 1 then mm_pV M a ci j (.int v) else none
def mm_aN (M : Mem) (a : Nat) : Option Int32 := match M[a]? with
  | some (.inl (t, n, _)) => if t < 5 then some (Int32.ofNat n) else none
  | _ => none
def mm_aI (M : Mem) (a t : Nat) (i : Int32) : Option Int32 := match M[a]? with
  | some (.inl (t', n, .inl f)) => if t' = t ∧ ¬ (i < 0 ∨ n ≤ i.toNatClampNeg) then some (f i.toNatClampNeg) else none
  | _ => none
def mm_aL (M : Mem) (a : Nat) (i : Int32) : Option Int64 := match M[a]? with
  | some (.inl (t', n, .inr (.inl f))) => if t' = 1 ∧ ¬ (i < 0 ∨ n ≤ i.toNatClampNeg) then some (f i.toNatClampNeg) else none
  | _ => none
def mm_aR (M : Mem) (a : Nat) (i : Int32) : Option Nat := match M[a]? with
  | some (.inl (t', n, .inr (.inr (.inr (.inr f))))) => if t' = 4 ∧ ¬ (i < 0 ∨ n ≤ i.toNatClampNeg) then f i.toNatClampNeg else none
  | _ => none
def mm_sI (M : Mem) (a t : Nat) (i x : Int32) : Option Mem := match M[a]? with
  | some (.inl (t', n, .inl f)) => if t' = t ∧ ¬ (i < 0 ∨ n ≤ i.toNatClampNeg) then some (M.set a (.inl (t', n, .inl (upd f i.toNatClampNeg x)))) else none
  | _ => none
def mm_sL (M : Mem) (a : Nat) (i : Int32) (x : Int64) : Option Mem := match M[a]? with
  | some (.inl (t', n, .inr (.inl f))) => if t' = 1 ∧ ¬ (i < 0 ∨ n ≤ i.toNatClampNeg) then some (M.set a (.inl (t', n, .inr (.inl (vp_updL f i.toNatClampNeg x))))) else none
  | _ => none
def mm_sR (M : Mem) (a : Nat) (i : Int32) (v : Nat) : Option Mem := match M[a]? with
  | some (.inl (t', n, .inr (.inr (.inr (.inr f))))) => if t' = 4 ∧ ¬ (i < 0 ∨ n ≤ i.toNatClampNeg) then (mm_ck M v 7).map (fun _ => M.set a (.inl (t', n, .inr (.inr (.inr (.inr (va_up f i.toNatClampNeg (some v)))))))) else none
  | _ => none
def mm_cp (M : Mem) (a0 : Nat) (sp : Int32) (a : Nat) (dp n : Int32) : Option Mem := match M[a0]?, M[a]? with
  | some (.inl (t0, n0, .inl f)), some (.inl (t1, n1, .inl g)) => if t0 = 0 ∧ t1 = 0 ∧ ¬ sp < 0 ∧ ¬ dp < 0 ∧ ¬ n < 0 ∧ sp.toNatClampNeg + n.toNatClampNeg ≤ n0 ∧ dp.toNatClampNeg + n.toNatClampNeg ≤ n1 then some (M.set a (.inl (t1, n1, .inl (va_cpy f g sp.toNatClampNeg dp.toNatClampNeg n.toNatClampNeg)))) else none
  | _, _ => none
def mm_dI (x y : Int32) : Option Int32 := if y = 0 then none else some (x / y)
def mm_rI (x y : Int32) : Option Int32 := if y = 0 then none else some (x - x / y * y)
def mm_dL (x y : Int64) : Option Int64 := if y = 0 then none else some (x / y)
def mm_rL (x y : Int64) : Option Int64 := if y = 0 then none else some (x - x / y * y)
def mm_nA (M : Mem) (lim : Nat) (n : Int32) (e : Nat → mE) : Option (Nat × Mem) := if n < 0 ∨ lim < n.toNatClampNeg then none else some (M.length, M ++ [e n.toNatClampNeg])
theorem mm_gV_spec {M : Mem} {a ci j : Nat} {v : Value} (h : mm_gV M a ci j = some v) : ∃ fs, M[a]? = some (.inr (ci, fs)) ∧ fs[j]? = some v := by
  unfold mm_gV at h
  split at h
  · rename_i c fs heq
    split at h
    · rename_i hc; subst hc; exact ⟨fs, heq, h⟩
    · cases h
  · cases h
theorem mm_gI_spec {M : Mem} {a ci j : Nat} {v : Int32} (h : mm_gI M a ci j = some v) : mm_gV M a ci j = some (.int v) := by
  unfold mm_gI at h
  split at h
  · rename_i x heq; cases h; exact heq
  · cases h
theorem mm_gL_spec {M : Mem} {a ci j : Nat} {v : Int64} (h : mm_gL M a ci j = some v) : mm_gV M a ci j = some (.long v) := by
  unfold mm_gL at h
  split at h
  · rename_i x heq; cases h; exact heq
  · cases h
theorem mm_gR_spec {M : Mem} {a ci j : Nat} {v : Nat} (h : mm_gR M a ci j = some v) : mm_gV M a ci j = some (.ref v) := by
  unfold mm_gR at h
  split at h
  · rename_i x heq; cases h; exact heq
  · cases h
theorem mm_ck_spec {M : Mem} {a ci : Nat} {u : Unit} (h : mm_ck M a ci = some u) : ∃ fs, M[a]? = some (.inr (ci, fs)) := by
  unfold mm_ck at h
  split at h
  · rename_i c fs heq
    split at h
    · rename_i hc; subst hc; exact ⟨fs, heq⟩
    · cases h
  · cases h
theorem mm_pV_spec {M M' : Mem} {a ci j : Nat} {v : Value} (h : mm_pV M a ci j v = some M') : ∃ fs, M[a]? = some (.inr (ci, fs)) ∧ j < fs.length ∧ M' = M.set a (.inr (ci, fs.set j v)) := by
  unfold mm_pV at h
  split at h
  · rename_i c fs heq
    split at h
    · rename_i hc; obtain ⟨rfl, hj⟩ := hc; cases h; exact ⟨fs, heq, hj, rfl⟩
    · cases h
  · cases h
theorem mm_aN_spec {M : Mem} {a : Nat} {v : Int32} (h : mm_aN M a = some v) : ∃ t n f, M[a]? = some (.inl (t, n, f)) ∧ t < 5 ∧ Int32.ofNat n = v := by
  unfold mm_aN at h
  split at h
  · rename_i t n f heq
    split at h
    · rename_i ht; cases h; exact ⟨t, n, f, heq, ht, rfl⟩
    · cases h
  · cases h
theorem mm_aI_spec {M : Mem} {a t : Nat} {i v : Int32} (h : mm_aI M a t i = some v) : ∃ n f, M[a]? = some (.inl (t, n, .inl f)) ∧ vp_in i n ∧ f i.toNatClampNeg = v := by
  unfold mm_aI at h
  split at h
  · rename_i t' n f heq
    split at h
    · rename_i hc; obtain ⟨rfl, hi⟩ := hc; cases h; exact ⟨n, f, heq, hi, rfl⟩
    · cases h
  · cases h
theorem mm_aL_spec {M : Mem} {a : Nat} {i : Int32} {v : Int64} (h : mm_aL M a i = some v) : ∃ n f, M[a]? = some (.inl (1, n, .inr (.inl f))) ∧ vp_in i n ∧ f i.toNatClampNeg = v := by
  unfold mm_aL at h
  split at h
  · rename_i t' n f heq
    split at h
    · rename_i hc; obtain ⟨rfl, hi⟩ := hc; cases h; exact ⟨n, f, heq, hi, rfl⟩
    · cases h
  · cases h
theorem mm_aR_spec {M : Mem} {a : Nat} {i : Int32} {v : Nat} (h : mm_aR M a i = some v) : ∃ n f, M[a]? = some (.inl (4, n, .inr (.inr (.inr (.inr f))))) ∧ vp_in i n ∧ f i.toNatClampNeg = some v := by
  unfold mm_aR at h
  split at h
  · rename_i t' n f heq
    split at h
    · rename_i hc; obtain ⟨rfl, hi⟩ := hc; exact ⟨n, f, heq, hi, h⟩
    · cases h
  · cases h
theorem mm_sI_spec {M M' : Mem} {a t : Nat} {i x : Int32} (h : mm_sI M a t i x = some M') : ∃ n f, M[a]? = some (.inl (t, n, .inl f)) ∧ vp_in i n ∧ M' = M.set a (.inl (t, n, .inl (upd f i.toNatClampNeg x))) := by
  unfold mm_sI at h
  split at h
  · rename_i t' n f heq
    split at h
    · rename_i hc; obtain ⟨rfl, hi⟩ := hc; cases h; exact ⟨n, f, heq, hi, rfl⟩
    · cases h
  · cases h
theorem mm_sL_spec {M M' : Mem} {a : Nat} {i : Int32} {x : Int64} (h : mm_sL M a i x = some M') : ∃ n f, M[a]? = some (.inl (1, n, .inr (.inl f))) ∧ vp_in i n ∧ M' = M.set a (.inl (1, n, .inr (.inl (vp_updL f i.toNatClampNeg x)))) := by
  unfold mm_sL at h
  split at h
  · rename_i t' n f heq
    split at h
    · rename_i hc; obtain ⟨rfl, hi⟩ := hc; cases h; exact ⟨n, f, heq, hi, rfl⟩
    · cases h
  · cases h
theorem mm_sR_spec {M M' : Mem} {a : Nat} {i : Int32} {v : Nat} (h : mm_sR M a i v = some M') : ∃ n f fs, M[a]? = some (.inl (4, n, .inr (.inr (.inr (.inr f))))) ∧ vp_in i n ∧ M[v]? = some (.inr (7, fs)) ∧ M' = M.set a (.inl (4, n, .inr (.inr (.inr (.inr (va_up f i.toNatClampNeg (some v))))))) := by
  unfold mm_sR at h
  split at h
  · rename_i t' n f heq
    split at h
    · rename_i hc; obtain ⟨rfl, hi⟩ := hc
      obtain ⟨u, h1, h2⟩ := Option.map_eq_some_iff.mp h
      obtain ⟨fs, h3⟩ := mm_ck_spec h1
      exact ⟨n, f, fs, heq, hi, h3, h2.symm⟩
    · cases h
  · cases h
theorem mm_cp_spec {M M' : Mem} {a0 a : Nat} {sp dp n : Int32} (h : mm_cp M a0 sp a dp n = some M') : ∃ n0 f n1 g, M[a0]? = some (.inl (0, n0, .inl f)) ∧ M[a]? = some (.inl (0, n1, .inl g)) ∧ ¬ sp < 0 ∧ ¬ dp < 0 ∧ ¬ n < 0 ∧ sp.toNatClampNeg + n.toNatClampNeg ≤ n0 ∧ dp.toNatClampNeg + n.toNatClampNeg ≤ n1 ∧ M' = M.set a (.inl (0, n1, .inl (va_cpy f g sp.toNatClampNeg dp.toNatClampNeg n.toNatClampNeg))) := by
  unfold mm_cp at h
  split at h
  · rename_i t0 n0 f t1 n1 g h1 h2
    split at h
    · rename_i hc; obtain ⟨rfl, rfl, c1, c2, c3, c4, c5⟩ := hc; cases h; exact ⟨n0, f, n1, g, h1, h2, c1, c2, c3, c4, c5, rfl⟩
    · cases h
  · cases h
/-! the judgement -/
abbrev Gm : Type := Program × Launch × Env × Room × State × MethodId × Array Value × List Frame × Method × Code
abbrev Gm.s (Γ : Gm) : State := Γ.2.2.2.2.1
abbrev Gm.m (Γ : Gm) : MethodId := Γ.2.2.2.2.2.1
abbrev Gm.args (Γ : Gm) : Array Value := Γ.2.2.2.2.2.2.1
abbrev Gm.below (Γ : Gm) : List Frame := Γ.2.2.2.2.2.2.2.1
abbrev Gm.meth (Γ : Gm) : Method := Γ.2.2.2.2.2.2.2.2.1
abbrev Gm.c (Γ : Gm) : Code := Γ.2.2.2.2.2.2.2.2.2
def WW (Γ : Gm) (H : Heap) (locs : List Loc) (ce sl : Nat) (Q : State → Prop) (g : JFrame) : Prop := W Γ.1 Γ.2.1 Γ.2.2.1 Γ.2.2.2.1 Γ.s Γ.m Γ.args Γ.below Γ.meth Γ.c H locs ce sl Q g
def JJ (Γ : Gm) (Q : State → Prop) (nL : Nat) (ω : Wd) (k : Nat) (M : Mem) (ce sl pc : Nat) (lv : List (Nat × Value)) (st : List Value) : Prop :=
  ∀ (H : Heap) (locs : List Loc) (ls : Array Slot), lv_has ls nL (shL ω lv) → va_P ω.2.2.2 cl_L (toW ω M) H → H.size = wz ω + M.length + k → va_S (mA ω) Γ.s.heap H locs → W Γ.1 Γ.2.1 Γ.2.2.1 Γ.2.2.2.1 Γ.s Γ.m Γ.args Γ.below Γ.meth Γ.c H locs ce sl Q (F0 Γ.m pc ls (st.map (sh ω)))
def rm_ (h mc ms : Nat) : Room := { frames := h, cells := mc, slots := ms, locals := 100 * h }
/-- what stands at every instruction of a method -/
def Cx (Γ : Gm) (cc : ByteArray) (nL : Nat) (own : String) (ω : Wd) (h mT sT : Nat) : Prop :=
  Γ.1.tables.exec = Jvm.exec ∧ Γ.c.code = cc ∧ Γ.c.maxLocals = nL ∧ Γ.s.vm.findClass own = some Γ.m.cls ∧ (∀ w ∈ gd_L, w.before Γ.args Γ.s = true) ∧ KW ω Γ.s ∧ Γ.meth.locks = false ∧ (wz ω ≤ Γ.s.heap.size ∧ ∀ q, q < wz ω → Γ.s.heap[q]? = ω.1[q]?) ∧ Γ.2.2.2.1 = rm_ h mT sT
section JV
variable {Γ : Gm} {Q : State → Prop} {nL k : Nat} {ω : Wd} {M : Mem} {ce sl pc : Nat} {lv : List (Nat × Value)} {st : List Value} {cc : ByteArray} {own : String} {hh mT sT : Nat} {ρ : Type} {res : ρ}
theorem jv_sub (ks : List Nat) {lv' : List (Nat × Value)} (hl : lv_pick lv ks = lv') (kk : JJ Γ Q nL ω k M ce sl pc lv' st) : JJ Γ Q nL ω k M ce sl pc lv st := by
  intro H locs ls h hP hz hS
  exact kk H locs ls (lv_sub h ks (by rw [shL_pick, hl])) hP hz hS
theorem jv_no {A : Prop} (h : (none : Option ρ) = some res) : A := by cases h
theorem jv_iconst (C : Cx Γ cc nL own ω hh mT sT) {n : Int} {v : Int32} (d : decode cc pc = .ok (.iconst n, 1)) (hv : Int32.ofInt n = v) (kk : JJ Γ Q nL ω k M ce sl (pc + 1) lv (.int v :: st)) : JJ Γ Q nL ω k M ce sl pc lv st := by
  obtain ⟨hx, hb, hml, hown, hts, hKW, hlk, hbs, hR⟩ := C
  intro H locs ls hl hP hz hS
  exact lv_iconst hx hb d hv (kk H locs ls hl hP hz hS)
theorem jv_bipush (C : Cx Γ cc nL own ω hh mT sT) {n : Int} {v : Int32} (d : decode cc pc = .ok (.bipush n, 2)) (hv : (Int8.ofInt n).toInt32 = v) (kk : JJ Γ Q nL ω k M ce sl (pc + 2) lv (.int v :: st)) : JJ Γ Q nL ω k M ce sl pc lv st := by
  obtain ⟨hx, hb, hml, hown, hts, hKW, hlk, hbs, hR⟩ := C
  intro H locs ls hl hP hz hS
  exact lv_bipush hx hb d hv (kk H locs ls hl hP hz hS)
theorem jv_sipush (C : Cx Γ cc nL own ω hh mT sT) {n : Int} {v : Int32} (d : decode cc pc = .ok (.sipush n, 3)) (hv : (Int16.ofInt n).toInt32 = v) (kk : JJ Γ Q nL ω k M ce sl (pc + 3) lv (.int v :: st)) : JJ Γ Q nL ω k M ce sl pc lv st := by
  obtain ⟨hx, hb, hml, hown, hts, hKW, hlk, hbs, hR⟩ := C
  intro H locs ls hl hP hz hS
  exact lv_sipush hx hb d hv (kk H locs ls hl hP hz hS)
theorem jv_lconst (C : Cx Γ cc nL own ω hh mT sT) {n : Fin 2} {v : Int64} (d : decode cc pc = .ok (.lconst n, 1)) (hv : Int64.ofNat (n : Nat) = v) (kk : JJ Γ Q nL ω k M ce sl (pc + 1) lv (.long v :: st)) : JJ Γ Q nL ω k M ce sl pc lv st := by
  obtain ⟨hx, hb, hml, hown, hts, hKW, hlk, hbs, hR⟩ := C
  intro H locs ls hl hP hz hS
  exact lv_lconst hx hb d hv (kk H locs ls hl hP hz hS)
theorem jv_ldc (C : Cx Γ cc nL own ω hh mT sT) {index : Nat} {v : Int32} (g : Cond.constant own index v ∈ gd_L) (d : decode cc pc = .ok (.ldc index, 2)) (kk : JJ Γ Q nL ω k M ce sl (pc + 2) lv (.int v :: st)) : JJ Γ Q nL ω k M ce sl pc lv st := by
  obtain ⟨hx, hb, hml, hown, hts, hKW, hlk, hbs, hR⟩ := C
  intro H locs ls hl hP hz hS
  exact lv_ldc hx hb hown (hts _ g) d (kk H locs ls hl hP hz hS)
theorem jv_ldcw (C : Cx Γ cc nL own ω hh mT sT) {index : Nat} {v : Int32} (g : Cond.constant own index v ∈ gd_L) (d : decode cc pc = .ok (.ldc_w index, 3)) (kk : JJ Γ Q nL ω k M ce sl (pc + 3) lv (.int v :: st)) : JJ Γ Q nL ω k M ce sl pc lv st := by
  obtain ⟨hx, hb, hml, hown, hts, hKW, hlk, hbs, hR⟩ := C
  intro H locs ls hl hP hz hS
  exact lv_ldcw hx hb hown (hts _ g) d (kk H locs ls hl hP hz hS)
theorem jv_ldc2 (C : Cx Γ cc nL own ω hh mT sT) {index : Nat} {v : Int64} (g : Cond.constantLong own index v ∈ gd_L) (d : decode cc pc = .ok (.ldc2_w index, 3)) (kk : JJ Γ Q nL ω k M ce sl (pc + 3) lv (.long v :: st)) : JJ Γ Q nL ω k M ce sl pc lv st := by
  obtain ⟨hx, hb, hml, hown, hts, hKW, hlk, hbs, hR⟩ := C
  intro H locs ls hl hP hz hS
  exact lv_ldc2 hx hb hown (hts _ g) d (kk H locs ls hl hP hz hS)
theorem jv_iload_n (C : Cx Γ cc nL own ω hh mT sT) {q : Fin 4} {i : Nat} {x : Int32} (d : decode cc pc = .ok (.iload_n q, 1)) (hi : (q : Nat) = i) (j : Nat) (hj : lv[j]? = some (i, .int x)) (kk : JJ Γ Q nL ω k M ce sl (pc + 1) lv (.int x :: st)) : JJ Γ Q nL ω k M ce sl pc lv st := by
  obtain ⟨hx, hb, hml, hown, hts, hKW, hlk, hbs, hR⟩ := C
  intro H locs ls hl hP hz hS
  exact lv_iload_n hx hb d hi (lv_at hl j (shL_at hj)) (kk H locs ls hl hP hz hS)
theorem jv_iload (C : Cx Γ cc nL own ω hh mT sT) {i : Nat} {x : Int32} (d : decode cc pc = .ok (.iload i, 2)) (j : Nat) (hj : lv[j]? = some (i, .int x)) (kk : JJ Γ Q nL ω k M ce sl (pc + 2) lv (.int x :: st)) : JJ Γ Q nL ω k M ce sl pc lv st := by
  obtain ⟨hx, hb, hml, hown, hts, hKW, hlk, hbs, hR⟩ := C
  intro H locs ls hl hP hz hS
  exact lv_iload hx hb d (lv_at hl j (shL_at hj)) (kk H locs ls hl hP hz hS)
theorem jv_istore_n (C : Cx Γ cc nL own ω hh mT sT) {q : Fin 4} {i : Nat} {x : Int32} {lv' : List (Nat × Value)} (d : decode cc pc = .ok (.istore_n q, 1)) (hi : (q : Nat) = i) (hn : i < nL) (hf : (i, Value.int x) :: lv.filter (fun q => !(q.1 == i) && !(q.1 + 1 == i && q.2.category == 2)) = lv') (kk : JJ Γ Q nL ω k M ce sl (pc + 1) lv' st) : JJ Γ Q nL ω k M ce sl pc lv (.int x :: st) := by
  obtain ⟨hx, hb, hml, hown, hts, hKW, hlk, hbs, hR⟩ := C
  intro H locs ls hl hP hz hS
  exact lv_istore_n hx hb d hi hl hn ((shL_filter1 (v := .int x)).trans (congrArg (shL ω) hf)) (fun ls hl => kk H locs ls hl hP hz hS)
theorem jv_istore (C : Cx Γ cc nL own ω hh mT sT) {i : Nat} {x : Int32} {lv' : List (Nat × Value)} (d : decode cc pc = .ok (.istore i, 2)) (hn : i < nL) (hf : (i, Value.int x) :: lv.filter (fun q => !(q.1 == i) && !(q.1 + 1 == i && q.2.category == 2)) = lv') (kk : JJ Γ Q nL ω k M ce sl (pc + 2) lv' st) : JJ Γ Q nL ω k M ce sl pc lv (.int x :: st) := by
  obtain ⟨hx, hb, hml, hown, hts, hKW, hlk, hbs, hR⟩ := C
  intro H locs ls hl hP hz hS
  exact lv_istore hx hb d hl hn ((shL_filter1 (v := .int x)).trans (congrArg (shL ω) hf)) (fun ls hl => kk H locs ls hl hP hz hS)
theorem jv_lload_n (C : Cx Γ cc nL own ω hh mT sT) {q : Fin 4} {i : Nat} {x : Int64} (d : decode cc pc = .ok (.lload_n q, 1)) (hi : (q : Nat) = i) (j : Nat) (hj : lv[j]? = some (i, .long x)) (kk : JJ Γ Q nL ω k M ce sl (pc + 1) lv (.long x :: st)) : JJ Γ Q nL ω k M ce sl pc lv st := by
  obtain ⟨hx, hb, hml, hown, hts, hKW, hlk, hbs, hR⟩ := C
  intro H locs ls hl hP hz hS
  exact lv_lload_n hx hb d hi (lv_at hl j (shL_at hj)) (kk H locs ls hl hP hz hS)
theorem jv_lload (C : Cx Γ cc nL own ω hh mT sT) {i : Nat} {x : Int64} (d : decode cc pc = .ok (.lload i, 2)) (j : Nat) (hj : lv[j]? = some (i, .long x)) (kk : JJ Γ Q nL ω k M ce sl (pc + 2) lv (.long x :: st)) : JJ Γ Q nL ω k M ce sl pc lv st := by
  obtain ⟨hx, hb, hml, hown, hts, hKW, hlk, hbs, hR⟩ := C
  intro H locs ls hl hP hz hS
  exact lv_lload hx hb d (lv_at hl j (shL_at hj)) (kk H locs ls hl hP hz hS)
theorem jv_lstore_n (C : Cx Γ cc nL own ω hh mT sT) {q : Fin 4} {i : Nat} {x : Int64} {lv' : List (Nat × Value)} (d : decode cc pc = .ok (.lstore_n q, 1)) (hi : (q : Nat) = i) (hn : i + 1 < nL) (hf : (i, Value.long x) :: lv.filter (fun q => !(q.1 == i) && (!(q.1 == i + 1) && !(q.1 + 1 == i && q.2.category == 2))) = lv') (kk : JJ Γ Q nL ω k M ce sl (pc + 1) lv' st) : JJ Γ Q nL ω k M ce sl pc lv (.long x :: st) := by
  obtain ⟨hx, hb, hml, hown, hts, hKW, hlk, hbs, hR⟩ := C
  intro H locs ls hl hP hz hS
  exact lv_lstore_n hx hb d hi hl hn ((shL_filter2 (v := .long x)).trans (congrArg (shL ω) hf)) (fun ls hl => kk H locs ls hl hP hz hS)
theorem jv_lstore (C : Cx Γ cc nL own ω hh mT sT) {i : Nat} {x : Int64} {lv' : List (Nat × Value)} (d : decode cc pc = .ok (.lstore i, 2)) (hn : i + 1 < nL) (hf : (i, Value.long x) :: lv.filter (fun q => !(q.1 == i) && (!(q.1 == i + 1) && !(q.1 + 1 == i && q.2.category == 2))) = lv') (kk : JJ Γ Q nL ω k M ce sl (pc + 2) lv' st) : JJ Γ Q nL ω k M ce sl pc lv (.long x :: st) := by
  obtain ⟨hx, hb, hml, hown, hts, hKW, hlk, hbs, hR⟩ := C
  intro H locs ls hl hP hz hS
  exact lv_lstore hx hb d hl hn ((shL_filter2 (v := .long x)).trans (congrArg (shL ω) hf)) (fun ls hl => kk H locs ls hl hP hz hS)
theorem jv_aload_n (C : Cx Γ cc nL own ω hh mT sT) {q : Fin 4} {i : Nat} {x : Nat} (d : decode cc pc = .ok (.aload_n q, 1)) (hi : (q : Nat) = i) (j : Nat) (hj : lv[j]? = some (i, .ref x)) (kk : JJ Γ Q nL ω k M ce sl (pc + 1) lv (.ref x :: st)) : JJ Γ Q nL ω k M ce sl pc lv st := by
  obtain ⟨hx, hb, hml, hown, hts, hKW, hlk, hbs, hR⟩ := C
  intro H locs ls hl hP hz hS
  exact lv_aload_n hx hb d hi (lv_at hl j (shL_at hj)) (kk H locs ls hl hP hz hS)
theorem jv_aload (C : Cx Γ cc nL own ω hh mT sT) {i : Nat} {x : Nat} (d : decode cc pc = .ok (.aload i, 2)) (j : Nat) (hj : lv[j]? = some (i, .ref x)) (kk : JJ Γ Q nL ω k M ce sl (pc + 2) lv (.ref x :: st)) : JJ Γ Q nL ω k M ce sl pc lv st := by
  obtain ⟨hx, hb, hml, hown, hts, hKW, hlk, hbs, hR⟩ := C
  intro H locs ls hl hP hz hS
  exact lv_aload hx hb d (lv_at hl j (shL_at hj)) (kk H locs ls hl hP hz hS)
theorem jv_astore_n (C : Cx Γ cc nL own ω hh mT sT) {q : Fin 4} {i : Nat} {x : Nat} {lv' : List (Nat × Value)} (d : decode cc pc = .ok (.astore_n q, 1)) (hi : (q : Nat) = i) (hn : i < nL) (hf : (i, Value.ref x) :: lv.filter (fun q => !(q.1 == i) && !(q.1 + 1 == i && q.2.category == 2)) = lv') (kk : JJ Γ Q nL ω k M ce sl (pc + 1) lv' st) : JJ Γ Q nL ω k M ce sl pc lv (.ref x :: st) := by
  obtain ⟨hx, hb, hml, hown, hts, hKW, hlk, hbs, hR⟩ := C
  intro H locs ls hl hP hz hS
  exact lv_astore_n hx hb d hi hl hn ((shL_filter1 (v := .ref x)).trans (congrArg (shL ω) hf)) (fun ls hl => kk H locs ls hl hP hz hS)
theorem jv_astore (C : Cx Γ cc nL own ω hh mT sT) {i : Nat} {x : Nat} {lv' : List (Nat × Value)} (d : decode cc pc = .ok (.astore i, 2)) (hn : i < nL) (hf : (i, Value.ref x) :: lv.filter (fun q => !(q.1 == i) && !(q.1 + 1 == i && q.2.category == 2)) = lv') (kk : JJ Γ Q nL ω k M ce sl (pc + 2) lv' st) : JJ Γ Q nL ω k M ce sl pc lv (.ref x :: st) := by
  obtain ⟨hx, hb, hml, hown, hts, hKW, hlk, hbs, hR⟩ := C
  intro H locs ls hl hP hz hS
  exact lv_astore hx hb d hl hn ((shL_filter1 (v := .ref x)).trans (congrArg (shL ω) hf)) (fun ls hl => kk H locs ls hl hP hz hS)
theorem jv_iinc (C : Cx Γ cc nL own ω hh mT sT) {i : Nat} {n : Int} {x v : Int32} {lv' : List (Nat × Value)} (d : decode cc pc = .ok (.iinc i n, 3)) (j : Nat) (hj : lv[j]? = some (i, .int x)) (hv : Int32.ofInt n = v) (hn : i < nL) (hf : (i, Value.int (x + v)) :: lv.filter (fun q => !(q.1 == i) && !(q.1 + 1 == i && q.2.category == 2)) = lv') (kk : JJ Γ Q nL ω k M ce sl (pc + 3) lv' st) : JJ Γ Q nL ω k M ce sl pc lv st := by
  obtain ⟨hx, hb, hml, hown, hts, hKW, hlk, hbs, hR⟩ := C
  intro H locs ls hl hP hz hS
  subst hv; exact lv_iinc hx hb d hl (shL_at hj) rfl hn ((shL_filter1 (v := .int (x + Int32.ofInt n))).trans (congrArg (shL ω) hf)) (fun ls hl => kk H locs ls hl hP hz hS)
theorem jv_iadd (C : Cx Γ cc nL own ω hh mT sT) {x y : Int32} (d : decode cc pc = .ok (.iadd, 1)) (kk : JJ Γ Q nL ω k M ce sl (pc + 1) lv (.int (x + y) :: st)) : JJ Γ Q nL ω k M ce sl pc lv (.int y :: .int x :: st) := by
  obtain ⟨hx, hb, hml, hown, hts, hKW, hlk, hbs, hR⟩ := C
  intro H locs ls hl hP hz hS
  exact lv_iadd hx hb d (kk H locs ls hl hP hz hS)
theorem jv_isub (C : Cx Γ cc nL own ω hh mT sT) {x y : Int32} (d : decode cc pc = .ok (.isub, 1)) (kk : JJ Γ Q nL ω k M ce sl (pc + 1) lv (.int (x - y) :: st)) : JJ Γ Q nL ω k M ce sl pc lv (.int y :: .int x :: st) := by
  obtain ⟨hx, hb, hml, hown, hts, hKW, hlk, hbs, hR⟩ := C
  intro H locs ls hl hP hz hS
  exact lv_isub hx hb d (kk H locs ls hl hP hz hS)
theorem jv_imul (C : Cx Γ cc nL own ω hh mT sT) {x y : Int32} (d : decode cc pc = .ok (.imul, 1)) (kk : JJ Γ Q nL ω k M ce sl (pc + 1) lv (.int (x * y) :: st)) : JJ Γ Q nL ω k M ce sl pc lv (.int y :: .int x :: st) := by
  obtain ⟨hx, hb, hml, hown, hts, hKW, hlk, hbs, hR⟩ := C
  intro H locs ls hl hP hz hS
  exact lv_imul hx hb d (kk H locs ls hl hP hz hS)
theorem jv_iand (C : Cx Γ cc nL own ω hh mT sT) {x y : Int32} (d : decode cc pc = .ok (.iand, 1)) (kk : JJ Γ Q nL ω k M ce sl (pc + 1) lv (.int (x &&& y) :: st)) : JJ Γ Q nL ω k M ce sl pc lv (.int y :: .int x :: st) := by
  obtain ⟨hx, hb, hml, hown, hts, hKW, hlk, hbs, hR⟩ := C
  intro H locs ls hl hP hz hS
  exact lv_iand hx hb d (kk H locs ls hl hP hz hS)
theorem jv_ior (C : Cx Γ cc nL own ω hh mT sT) {x y : Int32} (d : decode cc pc = .ok (.ior, 1)) (kk : JJ Γ Q nL ω k M ce sl (pc + 1) lv (.int (x ||| y) :: st)) : JJ Γ Q nL ω k M ce sl pc lv (.int y :: .int x :: st) := by
  obtain ⟨hx, hb, hml, hown, hts, hKW, hlk, hbs, hR⟩ := C
  intro H locs ls hl hP hz hS
  exact lv_ior hx hb d (kk H locs ls hl hP hz hS)
theorem jv_ixor (C : Cx Γ cc nL own ω hh mT sT) {x y : Int32} (d : decode cc pc = .ok (.ixor, 1)) (kk : JJ Γ Q nL ω k M ce sl (pc + 1) lv (.int (x ^^^ y) :: st)) : JJ Γ Q nL ω k M ce sl pc lv (.int y :: .int x :: st) := by
  obtain ⟨hx, hb, hml, hown, hts, hKW, hlk, hbs, hR⟩ := C
  intro H locs ls hl hP hz hS
  exact lv_ixor hx hb d (kk H locs ls hl hP hz hS)
theorem jv_ishl (C : Cx Γ cc nL own ω hh mT sT) {x y : Int32} (d : decode cc pc = .ok (.ishl, 1)) (kk : JJ Γ Q nL ω k M ce sl (pc + 1) lv (.int (x <<< (y &&& 31)) :: st)) : JJ Γ Q nL ω k M ce sl pc lv (.int y :: .int x :: st) := by
  obtain ⟨hx, hb, hml, hown, hts, hKW, hlk, hbs, hR⟩ := C
  intro H locs ls hl hP hz hS
  exact lv_ishl hx hb d (kk H locs ls hl hP hz hS)
theorem jv_ishr (C : Cx Γ cc nL own ω hh mT sT) {x y : Int32} (d : decode cc pc = .ok (.ishr, 1)) (kk : JJ Γ Q nL ω k M ce sl (pc + 1) lv (.int (x >>> (y &&& 31)) :: st)) : JJ Γ Q nL ω k M ce sl pc lv (.int y :: .int x :: st) := by
  obtain ⟨hx, hb, hml, hown, hts, hKW, hlk, hbs, hR⟩ := C
  intro H locs ls hl hP hz hS
  exact lv_ishr hx hb d (kk H locs ls hl hP hz hS)
theorem jv_ladd (C : Cx Γ cc nL own ω hh mT sT) {x y : Int64} (d : decode cc pc = .ok (.ladd, 1)) (kk : JJ Γ Q nL ω k M ce sl (pc + 1) lv (.long (x + y) :: st)) : JJ Γ Q nL ω k M ce sl pc lv (.long y :: .long x :: st) := by
  obtain ⟨hx, hb, hml, hown, hts, hKW, hlk, hbs, hR⟩ := C
  intro H locs ls hl hP hz hS
  exact lv_ladd hx hb d (kk H locs ls hl hP hz hS)
theorem jv_lsub (C : Cx Γ cc nL own ω hh mT sT) {x y : Int64} (d : decode cc pc = .ok (.lsub, 1)) (kk : JJ Γ Q nL ω k M ce sl (pc + 1) lv (.long (x - y) :: st)) : JJ Γ Q nL ω k M ce sl pc lv (.long y :: .long x :: st) := by
  obtain ⟨hx, hb, hml, hown, hts, hKW, hlk, hbs, hR⟩ := C
  intro H locs ls hl hP hz hS
  exact lv_lsub hx hb d (kk H locs ls hl hP hz hS)
theorem jv_lmul (C : Cx Γ cc nL own ω hh mT sT) {x y : Int64} (d : decode cc pc = .ok (.lmul, 1)) (kk : JJ Γ Q nL ω k M ce sl (pc + 1) lv (.long (x * y) :: st)) : JJ Γ Q nL ω k M ce sl pc lv (.long y :: .long x :: st) := by
  obtain ⟨hx, hb, hml, hown, hts, hKW, hlk, hbs, hR⟩ := C
  intro H locs ls hl hP hz hS
  exact lv_lmul hx hb d (kk H locs ls hl hP hz hS)
theorem jv_ineg (C : Cx Γ cc nL own ω hh mT sT) {x : Int32} (d : decode cc pc = .ok (.ineg, 1)) (kk : JJ Γ Q nL ω k M ce sl (pc + 1) lv (.int (0 - x) :: st)) : JJ Γ Q nL ω k M ce sl pc lv (.int x :: st) := by
  obtain ⟨hx, hb, hml, hown, hts, hKW, hlk, hbs, hR⟩ := C
  intro H locs ls hl hP hz hS
  exact lv_ineg hx hb d (kk H locs ls hl hP hz hS)
theorem jv_i2l (C : Cx Γ cc nL own ω hh mT sT) {x : Int32} (d : decode cc pc = .ok (.i2l, 1)) (kk : JJ Γ Q nL ω k M ce sl (pc + 1) lv (.long x.toInt64 :: st)) : JJ Γ Q nL ω k M ce sl pc lv (.int x :: st) := by
  obtain ⟨hx, hb, hml, hown, hts, hKW, hlk, hbs, hR⟩ := C
  intro H locs ls hl hP hz hS
  exact lv_i2l hx hb d rfl (kk H locs ls hl hP hz hS)
theorem jv_l2i (C : Cx Γ cc nL own ω hh mT sT) {x : Int64} (d : decode cc pc = .ok (.l2i, 1)) (kk : JJ Γ Q nL ω k M ce sl (pc + 1) lv (.int x.toInt32 :: st)) : JJ Γ Q nL ω k M ce sl pc lv (.long x :: st) := by
  obtain ⟨hx, hb, hml, hown, hts, hKW, hlk, hbs, hR⟩ := C
  intro H locs ls hl hP hz hS
  exact lv_l2i hx hb d rfl (kk H locs ls hl hP hz hS)
theorem jv_i2b (C : Cx Γ cc nL own ω hh mT sT) {x : Int32} (d : decode cc pc = .ok (.i2b, 1)) (kk : JJ Γ Q nL ω k M ce sl (pc + 1) lv (.int x.toInt8.toInt32 :: st)) : JJ Γ Q nL ω k M ce sl pc lv (.int x :: st) := by
  obtain ⟨hx, hb, hml, hown, hts, hKW, hlk, hbs, hR⟩ := C
  intro H locs ls hl hP hz hS
  exact lv_i2b hx hb d rfl (kk H locs ls hl hP hz hS)
theorem jv_lcmp (C : Cx Γ cc nL own ω hh mT sT) {x y : Int64} (d : decode cc pc = .ok (.lcmp, 1)) (kk : JJ Γ Q nL ω k M ce sl (pc + 1) lv (.int (lg_cmp x y) :: st)) : JJ Γ Q nL ω k M ce sl pc lv (.long y :: .long x :: st) := by
  obtain ⟨hx, hb, hml, hown, hts, hKW, hlk, hbs, hR⟩ := C
  intro H locs ls hl hP hz hS
  exact W.lcmp hx hb d (kk H locs ls hl hP hz hS)
theorem jv_dup (C : Cx Γ cc nL own ω hh mT sT) {v : Value} (d : decode cc pc = .ok (.dup, 1)) (hv : v.category = 1) (kk : JJ Γ Q nL ω k M ce sl (pc + 1) lv (v :: v :: st)) : JJ Γ Q nL ω k M ce sl pc lv (v :: st) := by
  obtain ⟨hx, hb, hml, hown, hts, hKW, hlk, hbs, hR⟩ := C
  intro H locs ls hl hP hz hS
  exact lv_dup hx hb d (by rw [sh_cat]; exact hv) (kk H locs ls hl hP hz hS)
theorem jv_pop (C : Cx Γ cc nL own ω hh mT sT) {v : Value} (d : decode cc pc = .ok (.pop, 1)) (hv : v.category = 1) (kk : JJ Γ Q nL ω k M ce sl (pc + 1) lv st) : JJ Γ Q nL ω k M ce sl pc lv (v :: st) := by
  obtain ⟨hx, hb, hml, hown, hts, hKW, hlk, hbs, hR⟩ := C
  intro H locs ls hl hP hz hS
  exact lv_pop hx hb d (by rw [sh_cat]; exact hv) (kk H locs ls hl hP hz hS)
theorem jv_dup2 (C : Cx Γ cc nL own ω hh mT sT) {v u : Value} (d : decode cc pc = .ok (.dup2, 1)) (hv : v.category = 1) (hu : u.category = 1) (kk : JJ Γ Q nL ω k M ce sl (pc + 1) lv (v :: u :: v :: u :: st)) : JJ Γ Q nL ω k M ce sl pc lv (v :: u :: st) := by
  obtain ⟨hx, hb, hml, hown, hts, hKW, hlk, hbs, hR⟩ := C
  intro H locs ls hl hP hz hS
  exact lv_dup2_11 hx hb d (by rw [sh_cat]; exact hv) (by rw [sh_cat]; exact hu) (kk H locs ls hl hP hz hS)
theorem jv_dup_x1 (C : Cx Γ cc nL own ω hh mT sT) {v u : Value} (d : decode cc pc = .ok (.dup_x1, 1)) (hv : v.category = 1) (hu : u.category = 1) (kk : JJ Γ Q nL ω k M ce sl (pc + 1) lv (v :: u :: v :: st)) : JJ Γ Q nL ω k M ce sl pc lv (v :: u :: st) := by
  obtain ⟨hx, hb, hml, hown, hts, hKW, hlk, hbs, hR⟩ := C
  intro H locs ls hl hP hz hS
  exact lv_dup_x1 hx hb d (by rw [sh_cat]; exact hv) (by rw [sh_cat]; exact hu) (kk H locs ls hl hP hz hS)
theorem jv_goto (C : Cx Γ cc nL own ω hh mT sT) {off : Int} {tgt : Nat} (d : decode cc pc = .ok (.goto off, 3)) (ht : (pc : Int) + off = (tgt : Int)) (kk : JJ Γ Q nL ω k M ce sl tgt lv st) : JJ Γ Q nL ω k M ce sl pc lv st := by
  obtain ⟨hx, hb, -⟩ := C
  intro H locs ls hl hP hz hS
  exact lv_goto hx hb d ht (kk H locs ls hl hP hz hS)
theorem jv_idiv (C : Cx Γ cc nL own ω hh mT sT) {x y : Int32} (d : decode cc pc = .ok (.idiv, 1)) {K : Int32 → Option ρ} (h : (mm_dI x y).bind K = some res) (kk : ∀ v, K v = some res → JJ Γ Q nL ω k M ce sl (pc + 1) lv (.int v :: st)) : JJ Γ Q nL ω k M ce sl pc lv (.int y :: .int x :: st) := by
  obtain ⟨hx, hb, -⟩ := C
  intro H locs ls hl hP hz hS
  obtain ⟨v, h1, h2⟩ := Option.bind_eq_some_iff.mp h
  unfold mm_dI at h1
  split at h1
  · cases h1
  · rename_i hne; cases h1; exact lv_idiv hx hb d hne (kk _ h2 H locs ls hl hP hz hS)
theorem jv_irem (C : Cx Γ cc nL own ω hh mT sT) {x y : Int32} (d : decode cc pc = .ok (.irem, 1)) {K : Int32 → Option ρ} (h : (mm_rI x y).bind K = some res) (kk : ∀ v, K v = some res → JJ Γ Q nL ω k M ce sl (pc + 1) lv (.int v :: st)) : JJ Γ Q nL ω k M ce sl pc lv (.int y :: .int x :: st) := by
  obtain ⟨hx, hb, -⟩ := C
  intro H locs ls hl hP hz hS
  obtain ⟨v, h1, h2⟩ := Option.bind_eq_some_iff.mp h
  unfold mm_rI at h1
  split at h1
  · cases h1
  · rename_i hne; cases h1; exact lv_irem hx hb d hne (kk _ h2 H locs ls hl hP hz hS)
theorem jv_ldiv (C : Cx Γ cc nL own ω hh mT sT) {x y : Int64} (d : decode cc pc = .ok (.ldiv, 1)) {K : Int64 → Option ρ} (h : (mm_dL x y).bind K = some res) (kk : ∀ v, K v = some res → JJ Γ Q nL ω k M ce sl (pc + 1) lv (.long v :: st)) : JJ Γ Q nL ω k M ce sl pc lv (.long y :: .long x :: st) := by
  obtain ⟨hx, hb, -⟩ := C
  intro H locs ls hl hP hz hS
  obtain ⟨v, h1, h2⟩ := Option.bind_eq_some_iff.mp h
  unfold mm_dL at h1
  split at h1
  · cases h1
  · rename_i hne; cases h1; exact lv_ldiv hx hb d hne (kk _ h2 H locs ls hl hP hz hS)
theorem jv_lrem (C : Cx Γ cc nL own ω hh mT sT) {x y : Int64} (d : decode cc pc = .ok (.lrem, 1)) {K : Int64 → Option ρ} (h : (mm_rL x y).bind K = some res) (kk : ∀ v, K v = some res → JJ Γ Q nL ω k M ce sl (pc + 1) lv (.long v :: st)) : JJ Γ Q nL ω k M ce sl pc lv (.long y :: .long x :: st) := by
  obtain ⟨hx, hb, -⟩ := C
  intro H locs ls hl hP hz hS
  obtain ⟨v, h1, h2⟩ := Option.bind_eq_some_iff.mp h
  unfold mm_rL at h1
  split at h1
  · cases h1
  · rename_i hne; cases h1; exact lv_lrem hx hb d hne (kk _ h2 H locs ls hl hP hz hS)
theorem jv_if_eq (C : Cx Γ cc nL own ω hh mT sT) {x : Int32} {off : Int} {tgt : Nat} (d : decode cc pc = .ok (.ifCond .eq off, 3)) (ht : (pc : Int) + off = (tgt : Int)) {A B : Option ρ} {inst : Decidable (x = 0)} (h : @ite (Option ρ) (x = 0) inst A B = some res) (k1 : A = some res → JJ Γ Q nL ω k M ce sl tgt lv st) (k2 : B = some res → JJ Γ Q nL ω k M ce sl (pc + 3) lv st) : JJ Γ Q nL ω k M ce sl pc lv (.int x :: st) := by
  obtain ⟨hx, hb, -⟩ := C
  intro H locs ls hl hP hz hS
  exact lv_if_eq hx hb d ht (fun c => k1 (by rw [if_pos c] at h; exact h) H locs ls hl hP hz hS) (fun c => k2 (by rw [if_neg c] at h; exact h) H locs ls hl hP hz hS)
theorem jv_icmp_eq (C : Cx Γ cc nL own ω hh mT sT) {x y : Int32} {off : Int} {tgt : Nat} (d : decode cc pc = .ok (.if_icmp .eq off, 3)) (ht : (pc : Int) + off = (tgt : Int)) {A B : Option ρ} {inst : Decidable (x = y)} (h : @ite (Option ρ) (x = y) inst A B = some res) (k1 : A = some res → JJ Γ Q nL ω k M ce sl tgt lv st) (k2 : B = some res → JJ Γ Q nL ω k M ce sl (pc + 3) lv st) : JJ Γ Q nL ω k M ce sl pc lv (.int y :: .int x :: st) := by
  obtain ⟨hx, hb, -⟩ := C
  intro H locs ls hl hP hz hS
  exact lv_icmp_eq hx hb d ht (fun c => k1 (by rw [if_pos c] at h; exact h) H locs ls hl hP hz hS) (fun c => k2 (by rw [if_neg c] at h; exact h) H locs ls hl hP hz hS)
theorem jv_if_ne (C : Cx Γ cc nL own ω hh mT sT) {x : Int32} {off : Int} {tgt : Nat} (d : decode cc pc = .ok (.ifCond .ne off, 3)) (ht : (pc : Int) + off = (tgt : Int)) {A B : Option ρ} {inst : Decidable (x = 0)} (h : @ite (Option ρ) (x = 0) inst B A = some res) (k1 : A = some res → JJ Γ Q nL ω k M ce sl tgt lv st) (k2 : B = some res → JJ Γ Q nL ω k M ce sl (pc + 3) lv st) : JJ Γ Q nL ω k M ce sl pc lv (.int x :: st) := by
  obtain ⟨hx, hb, -⟩ := C
  intro H locs ls hl hP hz hS
  exact lv_if_ne hx hb d ht (fun c => k1 (by rw [if_neg c] at h; exact h) H locs ls hl hP hz hS) (fun c => k2 (by rw [if_pos c] at h; exact h) H locs ls hl hP hz hS)
theorem jv_icmp_ne (C : Cx Γ cc nL own ω hh mT sT) {x y : Int32} {off : Int} {tgt : Nat} (d : decode cc pc = .ok (.if_icmp .ne off, 3)) (ht : (pc : Int) + off = (tgt : Int)) {A B : Option ρ} {inst : Decidable (x = y)} (h : @ite (Option ρ) (x = y) inst B A = some res) (k1 : A = some res → JJ Γ Q nL ω k M ce sl tgt lv st) (k2 : B = some res → JJ Γ Q nL ω k M ce sl (pc + 3) lv st) : JJ Γ Q nL ω k M ce sl pc lv (.int y :: .int x :: st) := by
  obtain ⟨hx, hb, -⟩ := C
  intro H locs ls hl hP hz hS
  exact lv_icmp_ne hx hb d ht (fun c => k1 (by rw [if_neg c] at h; exact h) H locs ls hl hP hz hS) (fun c => k2 (by rw [if_pos c] at h; exact h) H locs ls hl hP hz hS)
theorem jv_if_lt (C : Cx Γ cc nL own ω hh mT sT) {x : Int32} {off : Int} {tgt : Nat} (d : decode cc pc = .ok (.ifCond .lt off, 3)) (ht : (pc : Int) + off = (tgt : Int)) {A B : Option ρ} {inst : Decidable (x < 0)} (h : @ite (Option ρ) (x < 0) inst A B = some res) (k1 : A = some res → JJ Γ Q nL ω k M ce sl tgt lv st) (k2 : B = some res → JJ Γ Q nL ω k M ce sl (pc + 3) lv st) : JJ Γ Q nL ω k M ce sl pc lv (.int x :: st) := by
  obtain ⟨hx, hb, -⟩ := C
  intro H locs ls hl hP hz hS
  exact lv_if_lt hx hb d ht (fun c => k1 (by rw [if_pos c] at h; exact h) H locs ls hl hP hz hS) (fun c => k2 (by rw [if_neg c] at h; exact h) H locs ls hl hP hz hS)
theorem jv_icmp_lt (C : Cx Γ cc nL own ω hh mT sT) {x y : Int32} {off : Int} {tgt : Nat} (d : decode cc pc = .ok (.if_icmp .lt off, 3)) (ht : (pc : Int) + off = (tgt : Int)) {A B : Option ρ} {inst : Decidable (x < y)} (h : @ite (Option ρ) (x < y) inst A B = some res) (k1 : A = some res → JJ Γ Q nL ω k M ce sl tgt lv st) (k2 : B = some res → JJ Γ Q nL ω k M ce sl (pc + 3) lv st) : JJ Γ Q nL ω k M ce sl pc lv (.int y :: .int x :: st) := by
  obtain ⟨hx, hb, -⟩ := C
  intro H locs ls hl hP hz hS
  exact lv_icmp_lt hx hb d ht (fun c => k1 (by rw [if_pos c] at h; exact h) H locs ls hl hP hz hS) (fun c => k2 (by rw [if_neg c] at h; exact h) H locs ls hl hP hz hS)
theorem jv_if_ge (C : Cx Γ cc nL own ω hh mT sT) {x : Int32} {off : Int} {tgt : Nat} (d : decode cc pc = .ok (.ifCond .ge off, 3)) (ht : (pc : Int) + off = (tgt : Int)) {A B : Option ρ} {inst : Decidable (0 ≤ x)} (h : @ite (Option ρ) (0 ≤ x) inst A B = some res) (k1 : A = some res → JJ Γ Q nL ω k M ce sl tgt lv st) (k2 : B = some res → JJ Γ Q nL ω k M ce sl (pc + 3) lv st) : JJ Γ Q nL ω k M ce sl pc lv (.int x :: st) := by
  obtain ⟨hx, hb, -⟩ := C
  intro H locs ls hl hP hz hS
  exact lv_if_ge hx hb d ht (fun c => k1 (by rw [if_pos c] at h; exact h) H locs ls hl hP hz hS) (fun c => k2 (by rw [if_neg c] at h; exact h) H locs ls hl hP hz hS)
theorem jv_icmp_ge (C : Cx Γ cc nL own ω hh mT sT) {x y : Int32} {off : Int} {tgt : Nat} (d : decode cc pc = .ok (.if_icmp .ge off, 3)) (ht : (pc : Int) + off = (tgt : Int)) {A B : Option ρ} {inst : Decidable (y ≤ x)} (h : @ite (Option ρ) (y ≤ x) inst A B = some res) (k1 : A = some res → JJ Γ Q nL ω k M ce sl tgt lv st) (k2 : B = some res → JJ Γ Q nL ω k M ce sl (pc + 3) lv st) : JJ Γ Q nL ω k M ce sl pc lv (.int y :: .int x :: st) := by
  obtain ⟨hx, hb, -⟩ := C
  intro H locs ls hl hP hz hS
  exact lv_icmp_ge hx hb d ht (fun c => k1 (by rw [if_pos c] at h; exact h) H locs ls hl hP hz hS) (fun c => k2 (by rw [if_neg c] at h; exact h) H locs ls hl hP hz hS)
theorem jv_if_gt (C : Cx Γ cc nL own ω hh mT sT) {x : Int32} {off : Int} {tgt : Nat} (d : decode cc pc = .ok (.ifCond .gt off, 3)) (ht : (pc : Int) + off = (tgt : Int)) {A B : Option ρ} {inst : Decidable (0 < x)} (h : @ite (Option ρ) (0 < x) inst A B = some res) (k1 : A = some res → JJ Γ Q nL ω k M ce sl tgt lv st) (k2 : B = some res → JJ Γ Q nL ω k M ce sl (pc + 3) lv st) : JJ Γ Q nL ω k M ce sl pc lv (.int x :: st) := by
  obtain ⟨hx, hb, -⟩ := C
  intro H locs ls hl hP hz hS
  exact lv_if_gt hx hb d ht (fun c => k1 (by rw [if_pos c] at h; exact h) H locs ls hl hP hz hS) (fun c => k2 (by rw [if_neg c] at h; exact h) H locs ls hl hP hz hS)
theorem jv_icmp_gt (C : Cx Γ cc nL own ω hh mT sT) {x y : Int32} {off : Int} {tgt : Nat} (d : decode cc pc = .ok (.if_icmp .gt off, 3)) (ht : (pc : Int) + off = (tgt : Int)) {A B : Option ρ} {inst : Decidable (y < x)} (h : @ite (Option ρ) (y < x) inst A B = some res) (k1 : A = some res → JJ Γ Q nL ω k M ce sl tgt lv st) (k2 : B = some res → JJ Γ Q nL ω k M ce sl (pc + 3) lv st) : JJ Γ Q nL ω k M ce sl pc lv (.int y :: .int x :: st) := by
  obtain ⟨hx, hb, -⟩ := C
  intro H locs ls hl hP hz hS
  exact lv_icmp_gt hx hb d ht (fun c => k1 (by rw [if_pos c] at h; exact h) H locs ls hl hP hz hS) (fun c => k2 (by rw [if_neg c] at h; exact h) H locs ls hl hP hz hS)
theorem jv_if_le (C : Cx Γ cc nL own ω hh mT sT) {x : Int32} {off : Int} {tgt : Nat} (d : decode cc pc = .ok (.ifCond .le off, 3)) (ht : (pc : Int) + off = (tgt : Int)) {A B : Option ρ} {inst : Decidable (x ≤ 0)} (h : @ite (Option ρ) (x ≤ 0) inst A B = some res) (k1 : A = some res → JJ Γ Q nL ω k M ce sl tgt lv st) (k2 : B = some res → JJ Γ Q nL ω k M ce sl (pc + 3) lv st) : JJ Γ Q nL ω k M ce sl pc lv (.int x :: st) := by
  obtain ⟨hx, hb, -⟩ := C
  intro H locs ls hl hP hz hS
  exact lv_if_le hx hb d ht (fun c => k1 (by rw [if_pos c] at h; exact h) H locs ls hl hP hz hS) (fun c => k2 (by rw [if_neg c] at h; exact h) H locs ls hl hP hz hS)
theorem jv_icmp_le (C : Cx Γ cc nL own ω hh mT sT) {x y : Int32} {off : Int} {tgt : Nat} (d : decode cc pc = .ok (.if_icmp .le off, 3)) (ht : (pc : Int) + off = (tgt : Int)) {A B : Option ρ} {inst : Decidable (x ≤ y)} (h : @ite (Option ρ) (x ≤ y) inst A B = some res) (k1 : A = some res → JJ Γ Q nL ω k M ce sl tgt lv st) (k2 : B = some res → JJ Γ Q nL ω k M ce sl (pc + 3) lv st) : JJ Γ Q nL ω k M ce sl pc lv (.int y :: .int x :: st) := by
  obtain ⟨hx, hb, -⟩ := C
  intro H locs ls hl hP hz hS
  exact lv_icmp_le hx hb d ht (fun c => k1 (by rw [if_pos c] at h; exact h) H locs ls hl hP hz hS) (fun c => k2 (by rw [if_neg c] at h; exact h) H locs ls hl hP hz hS)
def jv_FA (own : String) (idx ci j : Nat) : Prop := ∃ (C : String) (T : u_T) (N : Nat), cl_L[ci]? = some (C, T, N) ∧ j < N ∧ (∀ w ∈ u_ws C T N, w ∈ gd_L) ∧ (Cond.fieldLink own idx (T j).1 (T j).2.1 (T j).2.2.1 ∈ gd_L ∨ ∃ host, Cond.fieldLinkNest own idx (T j).1 (T j).2.1 (T j).2.2.1 host ∈ ns_L)
def jv_FP (own : String) (idx ci j : Nat) (ty : FieldType) : Prop := ∃ (C : String) (T : u_T) (N : Nat) (tf : Nat → FieldType), cl_L[ci]? = some (C, T, N) ∧ j < N ∧ (∀ w ∈ u_ws C T N, w ∈ gd_L) ∧ (∀ k, k < N → parseFieldDescriptor (T k).2.2.1 = some (tf k)) ∧ (∀ a, a < N → ∀ b, b < N → a ≠ b → (T a).2.1 ≠ (T b).2.1) ∧ parseFieldDescriptor (T j).2.2.1 = some ty ∧ (T j).2.2.2 = false ∧ (Cond.fieldLink own idx (T j).1 (T j).2.1 (T j).2.2.1 ∈ gd_L ∨ ∃ host, Cond.fieldLinkNest own idx (T j).1 (T j).2.1 (T j).2.2.1 host ∈ ns_L)
def jv_FF (own : String) (idx ci j : Nat) (ty : FieldType) : Prop := ∃ (C : String) (T : u_T) (N : Nat) (tf : Nat → FieldType), cl_L[ci]? = some (C, T, N) ∧ j < N ∧ (∀ w ∈ u_ws C T N, w ∈ gd_L) ∧ (∀ k, k < N → parseFieldDescriptor (T k).2.2.1 = some (tf k)) ∧ (∀ a, a < N → ∀ b, b < N → a ≠ b → (T a).2.1 ≠ (T b).2.1) ∧ parseFieldDescriptor (T j).2.2.1 = some ty ∧ (T j).2.2.2 = true ∧ (T j).1 = own ∧ Cond.fieldLink own idx (T j).1 (T j).2.1 (T j).2.2.1 ∈ gd_L
theorem jv_get (C : Cx Γ cc nL own ω hh mT sT) {idx ci j a : Nat} {v : Value} (fa : jv_FA own idx ci j) (d : decode cc pc = .ok (.getfield idx, 3)) (hv : mm_gV M a ci j = some v) (kk : JJ Γ Q nL ω k M ce sl (pc + 3) lv (v :: st)) : JJ Γ Q nL ω k M ce sl pc lv (.ref a :: st) := by
  obtain ⟨hx, hb, hml, hown, hts, hKW, hlk, hbs, hR⟩ := C
  intro H locs ls hl hP hz hS
  obtain ⟨fs, h1, h2⟩ := mm_gV_spec hv
  obtain ⟨C, T, N, hc, hj, hin, hlink⟩ := fa
  have h3 : (fs.map (sh ω))[j]? = some (sh ω v) := by simp [h2]
  rcases hlink with hlink | ⟨host, hlink⟩
  · exact va_get (D := ω.2.2.2) (ci := ci) (v := sh ω v) (C := C) (T := T) (N := N) hx hb hts hin hown hKW.1 hP a (toW_at h1) hc j hj (hts _ hlink) (fun _ h9 => h9) h3 d (kk H locs ls hl hP hz hS)
  · exact va_getN (D := ω.2.2.2) (ci := ci) (v := sh ω v) (C := C) (T := T) (N := N) hx hb hts hin hown hKW.1 hP a (toW_at h1) hc j hj (va_Nw.use rfl (hKW.2 _ hlink)) (fun _ h9 => h9) h3 d (kk H locs ls hl hP hz hS)
theorem jv_put (C : Cx Γ cc nL own ω hh mT sT) {idx ci j a : Nat} {v : Value} {ty : FieldType} {M' : Mem} (fp : jv_FP own idx ci j ty) (d : decode cc pc = .ok (.putfield idx, 3)) (hv : mm_pV M a ci j v = some M') (hn : narrow ty (sh ω v) = sh ω v) (hfit : fits ty (sh ω v) = true) (kk : JJ Γ Q nL ω k M' ce sl (pc + 3) lv st) : JJ Γ Q nL ω k M ce sl pc lv (v :: .ref a :: st) := by
  obtain ⟨hx, hb, hml, hown, hts, hKW, hlk, hbs, hR⟩ := C
  intro H locs ls hl hP hz hS
  obtain ⟨fs, h1, h2, rfl⟩ := mm_pV_spec hv
  obtain ⟨C, T, N, tf, hc, hj, hin, hty, hnm, hd, hfin, hlink⟩ := fp
  have hset : (toW ω M).set a (wz ω + a, .inr (ci, (fs.map (sh ω)).set j (sh ω v))) = toW ω (M.set a (.inr (ci, fs.set j v))) := by
    rw [← toW_set]
    simp [shE, List.map_set]
  have hsz : H.size = wz ω + (M.set a (.inr (ci, fs.set j v)) : Mem).length + k := by rw [List.length_set]; exact hz
  have hlink' : (Cond.fieldLink own idx (T j).1 (T j).2.1 (T j).2.2.1).before Γ.args Γ.s = true ∨ ∃ host, (Cond.fieldLinkNest own idx (T j).1 (T j).2.1 (T j).2.2.1 host).before Γ.args Γ.s = true := hlink.elim (fun h => Or.inl (hts _ h)) (fun ⟨host, h⟩ => Or.inr ⟨host, va_Nw.use rfl (hKW.2 _ h)⟩)
  refine mp_put (D := ω.2.2.2) (ci := ci) (v := sh ω v) (C := C) (T := T) (N := N) hx hb hts hin tf hty hnm hown hKW.1 hP toW_D hS a (toW_at h1) hc j hj hlink' (fun _ h9 => h9) hfin hd hn hfit (by simpa using h2) d (fun H1 locs1 hP1 hz1 hS1 => ?_)
  rw [hset] at hP1
  exact kk H1 locs1 ls hl hP1 (by rw [hz1]; exact hsz) hS1
theorem jv_putFn (C : Cx Γ cc nL own ω hh mT sT) {idx ci j a : Nat} {v : Value} {ty : FieldType} {M' : Mem} (fp : jv_FF own idx ci j ty) (hin2 : Γ.meth.name = "<init>") (d : decode cc pc = .ok (.putfield idx, 3)) (hv : mm_pV M a ci j v = some M') (hn : narrow ty (sh ω v) = sh ω v) (hfit : fits ty (sh ω v) = true) (kk : JJ Γ Q nL ω k M' ce sl (pc + 3) lv st) : JJ Γ Q nL ω k M ce sl pc lv (v :: .ref a :: st) := by
  obtain ⟨hx, hb, hml, hown, hts, hKW, hlk, hbs, hR⟩ := C
  intro H locs ls hl hP hz hS
  obtain ⟨fs, h1, h2, rfl⟩ := mm_pV_spec hv
  obtain ⟨C, T, N, tf, hc, hj, hin, hty, hnm, hd, hfin, hdecl, hlink⟩ := fp
  have hset : (toW ω M).set a (wz ω + a, .inr (ci, (fs.map (sh ω)).set j (sh ω v))) = toW ω (M.set a (.inr (ci, fs.set j v))) := by
    rw [← toW_set]
    simp [shE, List.map_set]
  have hsz : H.size = wz ω + (M.set a (.inr (ci, fs.set j v)) : Mem).length + k := by rw [List.length_set]; exact hz
  refine mp_putF (D := ω.2.2.2) (ci := ci) (v := sh ω v) (C := C) (T := T) (N := N) hx hb hts hin tf hty hnm hown hKW.1 hP toW_D hS a (toW_at h1) hc j hj (hts _ hlink) (fun _ h9 => h9) hfin hin2 hdecl hd hn hfit (by simpa using h2) d (fun H1 locs1 hP1 hz1 hS1 => ?_)
  rw [hset] at hP1
  exact kk H1 locs1 ls hl hP1 (by rw [hz1]; exact hsz) hS1
theorem jv_getI (C : Cx Γ cc nL own ω hh mT sT) {idx ci j a : Nat} (fa : jv_FA own idx ci j) (d : decode cc pc = .ok (.getfield idx, 3)) {K : Int32 → Option ρ} (h : (mm_gI M a ci j).bind K = some res) (kk : ∀ v, K v = some res → JJ Γ Q nL ω k M ce sl (pc + 3) lv (.int v :: st)) : JJ Γ Q nL ω k M ce sl pc lv (.ref a :: st) := by
  obtain ⟨v, h1, h2⟩ := Option.bind_eq_some_iff.mp h
  exact jv_get C fa d (mm_gI_spec h1) (kk v h2)
theorem jv_getL (C : Cx Γ cc nL own ω hh mT sT) {idx ci j a : Nat} (fa : jv_FA own idx ci j) (d : decode cc pc = .ok (.getfield idx, 3)) {K : Int64 → Option ρ} (h : (mm_gL M a ci j).bind K = some res) (kk : ∀ v, K v = some res → JJ Γ Q nL ω k M ce sl (pc + 3) lv (.long v :: st)) : JJ Γ Q nL ω k M ce sl pc lv (.ref a :: st) := by
  obtain ⟨v, h1, h2⟩ := Option.bind_eq_some_iff.mp h
  exact jv_get C fa d (mm_gL_spec h1) (kk v h2)
theorem jv_getR (C : Cx Γ cc nL own ω hh mT sT) {idx ci j a : Nat} (fa : jv_FA own idx ci j) (d : decode cc pc = .ok (.getfield idx, 3)) {K : Nat → Option ρ} (h : (mm_gR M a ci j).bind K = some res) (kk : ∀ v, K v = some res → JJ Γ Q nL ω k M ce sl (pc + 3) lv (.ref v :: st)) : JJ Γ Q nL ω k M ce sl pc lv (.ref a :: st) := by
  obtain ⟨v, h1, h2⟩ := Option.bind_eq_some_iff.mp h
  exact jv_get C fa d (mm_gR_spec h1) (kk v h2)
theorem jv_putI (C : Cx Γ cc nL own ω hh mT sT) {idx ci j a : Nat} {x : Int32} (fp : jv_FP own idx ci j .int) (d : decode cc pc = .ok (.putfield idx, 3)) {K : Mem → Option ρ} (h : (mm_pV M a ci j (.int x)).bind K = some res) (kk : ∀ M, K M = some res → JJ Γ Q nL ω k M ce sl (pc + 3) lv st) : JJ Γ Q nL ω k M ce sl pc lv (.int x :: .ref a :: st) := by
  obtain ⟨v, h1, h2⟩ := Option.bind_eq_some_iff.mp h
  exact jv_put C fp d h1 rfl rfl (kk v h2)
theorem jv_putL (C : Cx Γ cc nL own ω hh mT sT) {idx ci j a : Nat} {x : Int64} (fp : jv_FP own idx ci j .long) (d : decode cc pc = .ok (.putfield idx, 3)) {K : Mem → Option ρ} (h : (mm_pV M a ci j (.long x)).bind K = some res) (kk : ∀ M, K M = some res → JJ Γ Q nL ω k M ce sl (pc + 3) lv st) : JJ Γ Q nL ω k M ce sl pc lv (.long x :: .ref a :: st) := by
  obtain ⟨v, h1, h2⟩ := Option.bind_eq_some_iff.mp h
  exact jv_put C fp d h1 rfl rfl (kk v h2)
theorem jv_putZ (C : Cx Γ cc nL own ω hh mT sT) {idx ci j a : Nat} {x : Int32} (fp : jv_FP own idx ci j .boolean) (d : decode cc pc = .ok (.putfield idx, 3)) {K : Mem → Option ρ} (h : (mm_pZ M a ci j x).bind K = some res) (kk : ∀ M, K M = some res → JJ Γ Q nL ω k M ce sl (pc + 3) lv st) : JJ Γ Q nL ω k M ce sl pc lv (.int x :: .ref a :: st) := by
  obtain ⟨v, h1, h2⟩ := Option.bind_eq_some_iff.mp h
  unfold mm_pZ at h1
  split at h1
  · rename_i hx
    rcases hx with rfl | rfl
    · exact jv_put C fp d h1 rfl rfl (kk v h2)
    · exact jv_put C fp d h1 rfl rfl (kk v h2)
  · cases h1
theorem jv_putR (C : Cx Γ cc nL own ω hh mT sT) {idx ci j a x : Nat} {ty : FieldType} (fp : jv_FP own idx ci j ty) (d : decode cc pc = .ok (.putfield idx, 3)) (hn : ∀ q : Nat, narrow ty (.ref q) = .ref q ∧ fits ty (.ref q) = true) {K : Mem → Option ρ} (h : (mm_pV M a ci j (.ref x)).bind K = some res) (kk : ∀ M, K M = some res → JJ Γ Q nL ω k M ce sl (pc + 3) lv st) : JJ Γ Q nL ω k M ce sl pc lv (.ref x :: .ref a :: st) := by
  obtain ⟨v, h1, h2⟩ := Option.bind_eq_some_iff.mp h
  exact jv_put C fp d h1 (hn _).1 (hn _).2 (kk v h2)
theorem jv_putFR (C : Cx Γ cc nL own ω hh mT sT) {idx ci j a x : Nat} {ty : FieldType} (fp : jv_FF own idx ci j ty) (hin2 : Γ.meth.name = "<init>") (d : decode cc pc = .ok (.putfield idx, 3)) (hn : ∀ q : Nat, narrow ty (.ref q) = .ref q ∧ fits ty (.ref q) = true) {K : Mem → Option ρ} (h : (mm_pV M a ci j (.ref x)).bind K = some res) (kk : ∀ M, K M = some res → JJ Γ Q nL ω k M ce sl (pc + 3) lv st) : JJ Γ Q nL ω k M ce sl pc lv (.ref x :: .ref a :: st) := by
  obtain ⟨v, h1, h2⟩ := Option.bind_eq_some_iff.mp h
  exact jv_putFn C fp hin2 d h1 (hn _).1 (hn _).2 (kk v h2)
/-! arrays -/
theorem jv_alen (C : Cx Γ cc nL own ω hh mT sT) {a : Nat} (d : decode cc pc = .ok (.arraylength, 1)) {K : Int32 → Option ρ} (h : (mm_aN M a).bind K = some res) (kk : ∀ v, K v = some res → JJ Γ Q nL ω k M ce sl (pc + 1) lv (.int v :: st)) : JJ Γ Q nL ω k M ce sl pc lv (.ref a :: st) := by
  obtain ⟨hx, hb, hml, hown, hts, hKW, hlk, hbs, hR⟩ := C
  intro H locs ls hl hP hz hS
  obtain ⟨v, h1, h2⟩ := Option.bind_eq_some_iff.mp h
  obtain ⟨t, n, f, h3, h4, h5⟩ := mm_aN_spec h1
  have h6 : (shA ω (n, f)).1 = n := by unfold shA; split <;> simp_all
  obtain ⟨ty, hty⟩ : ∃ ty, (ty_L ω)[t]? = some (ω.2.2.1 t, ty) := by
    rcases (show t = 0 ∨ t = 1 ∨ t = 2 ∨ t = 3 ∨ t = 4 by omega) with rfl | rfl | rfl | rfl | rfl <;> exact ⟨_, rfl⟩
  exact va_alen (D := ω.2.2.2) hx hb hKW.1 hP a t (toW_at h3) hty (v := v) (by rw [h6]; exact h5) d (kk v h2 H locs ls hl hP hz hS)
theorem jv_iald (C : Cx Γ cc nL own ω hh mT sT) {a : Nat} {i : Int32} (d : decode cc pc = .ok (.iaload, 1)) {K : Int32 → Option ρ} (h : (mm_aI M a 0 i).bind K = some res) (kk : ∀ v, K v = some res → JJ Γ Q nL ω k M ce sl (pc + 1) lv (.int v :: st)) : JJ Γ Q nL ω k M ce sl pc lv (.int i :: .ref a :: st) := by
  obtain ⟨hx, hb, hml, hown, hts, hKW, hlk, hbs, hR⟩ := C
  intro H locs ls hl hP hz hS
  obtain ⟨v, h1, h2⟩ := Option.bind_eq_some_iff.mp h
  obtain ⟨n, f, h3, h4, rfl⟩ := mm_aI_spec h1
  exact va_iald (D := ω.2.2.2) hx hb hKW.1 hP a 0 (toW_at h3) rfl h4 d (kk _ h2 H locs ls hl hP hz hS)
theorem jv_bald (C : Cx Γ cc nL own ω hh mT sT) {a : Nat} {i : Int32} (d : decode cc pc = .ok (.baload, 1)) {K : Int32 → Option ρ} (h : (mm_aI M a 2 i).bind K = some res) (kk : ∀ v, K v = some res → JJ Γ Q nL ω k M ce sl (pc + 1) lv (.int v :: st)) : JJ Γ Q nL ω k M ce sl pc lv (.int i :: .ref a :: st) := by
  obtain ⟨hx, hb, hml, hown, hts, hKW, hlk, hbs, hR⟩ := C
  intro H locs ls hl hP hz hS
  obtain ⟨v, h1, h2⟩ := Option.bind_eq_some_iff.mp h
  obtain ⟨n, f, h3, h4, rfl⟩ := mm_aI_spec h1
  exact va_bald (D := ω.2.2.2) hx hb hKW.1 hP a 2 (toW_at h3) rfl h4 d (kk _ h2 H locs ls hl hP hz hS)
theorem jv_zald (C : Cx Γ cc nL own ω hh mT sT) {a : Nat} {i : Int32} (d : decode cc pc = .ok (.baload, 1)) {K : Int32 → Option ρ} (h : (mm_aI M a 3 i).bind K = some res) (kk : ∀ v, K v = some res → JJ Γ Q nL ω k M ce sl (pc + 1) lv (.int v :: st)) : JJ Γ Q nL ω k M ce sl pc lv (.int i :: .ref a :: st) := by
  obtain ⟨hx, hb, hml, hown, hts, hKW, hlk, hbs, hR⟩ := C
  intro H locs ls hl hP hz hS
  obtain ⟨v, h1, h2⟩ := Option.bind_eq_some_iff.mp h
  obtain ⟨n, f, h3, h4, rfl⟩ := mm_aI_spec h1
  exact va_zald (D := ω.2.2.2) hx hb hKW.1 hP a 3 (toW_at h3) rfl h4 d (kk _ h2 H locs ls hl hP hz hS)
theorem jv_lald (C : Cx Γ cc nL own ω hh mT sT) {a : Nat} {i : Int32} (d : decode cc pc = .ok (.laload, 1)) {K : Int64 → Option ρ} (h : (mm_aL M a i).bind K = some res) (kk : ∀ v, K v = some res → JJ Γ Q nL ω k M ce sl (pc + 1) lv (.long v :: st)) : JJ Γ Q nL ω k M ce sl pc lv (.int i :: .ref a :: st) := by
  obtain ⟨hx, hb, hml, hown, hts, hKW, hlk, hbs, hR⟩ := C
  intro H locs ls hl hP hz hS
  obtain ⟨v, h1, h2⟩ := Option.bind_eq_some_iff.mp h
  obtain ⟨n, f, h3, h4, rfl⟩ := mm_aL_spec h1
  exact va_lald (D := ω.2.2.2) hx hb hKW.1 hP a 1 (toW_at h3) rfl h4 d (kk _ h2 H locs ls hl hP hz hS)
theorem jv_aald (C : Cx Γ cc nL own ω hh mT sT) {a : Nat} {i : Int32} (d : decode cc pc = .ok (.aaload, 1)) {K : Nat → Option ρ} (h : (mm_aR M a i).bind K = some res) (kk : ∀ v, K v = some res → JJ Γ Q nL ω k M ce sl (pc + 1) lv (.ref v :: st)) : JJ Γ Q nL ω k M ce sl pc lv (.int i :: .ref a :: st) := by
  obtain ⟨hx, hb, hml, hown, hts, hKW, hlk, hbs, hR⟩ := C
  intro H locs ls hl hP hz hS
  obtain ⟨v, h1, h2⟩ := Option.bind_eq_some_iff.mp h
  obtain ⟨n, f, h3, h4, h5⟩ := mm_aR_spec h1
  refine va_aldq (D := ω.2.2.2) hx hb hKW.1 hP a 4 (toW_at h3) rfl h4 d ?_
  rw [h5]
  exact kk _ h2 H locs ls hl hP hz hS
theorem jv_iast (C : Cx Γ cc nL own ω hh mT sT) {a : Nat} {i x : Int32} (d : decode cc pc = .ok (.iastore, 1)) {K : Mem → Option ρ} (h : (mm_sI M a 0 i x).bind K = some res) (kk : ∀ M, K M = some res → JJ Γ Q nL ω k M ce sl (pc + 1) lv st) : JJ Γ Q nL ω k M ce sl pc lv (.int x :: .int i :: .ref a :: st) := by
  obtain ⟨hx, hb, hml, hown, hts, hKW, hlk, hbs, hR⟩ := C
  intro H locs ls hl hP hz hS
  obtain ⟨v, h1, h2⟩ := Option.bind_eq_some_iff.mp h
  obtain ⟨n, f, h3, h4, rfl⟩ := mm_sI_spec h1
  refine mp_iast (D := ω.2.2.2) hx hb hKW.1 hP toW_D hS a 0 (toW_at h3) rfl h4 d (fun H1 locs1 hP1 hz1 hS1 => ?_)
  exact kk _ h2 H1 locs1 ls hl (by rw [← toW_set]; exact hP1) (by rw [List.length_set, hz1]; exact hz) hS1
theorem jv_bast (C : Cx Γ cc nL own ω hh mT sT) {a : Nat} {i x : Int32} (d : decode cc pc = .ok (.bastore, 1)) {K : Mem → Option ρ} (h : (mm_sI M a 2 i (vp_nar .byte x)).bind K = some res) (kk : ∀ M, K M = some res → JJ Γ Q nL ω k M ce sl (pc + 1) lv st) : JJ Γ Q nL ω k M ce sl pc lv (.int x :: .int i :: .ref a :: st) := by
  obtain ⟨hx, hb, hml, hown, hts, hKW, hlk, hbs, hR⟩ := C
  intro H locs ls hl hP hz hS
  obtain ⟨v, h1, h2⟩ := Option.bind_eq_some_iff.mp h
  obtain ⟨n, f, h3, h4, rfl⟩ := mm_sI_spec h1
  refine mp_bast (D := ω.2.2.2) hx hb hKW.1 hP toW_D hS a 2 (toW_at h3) rfl h4 d (fun H1 locs1 hP1 hz1 hS1 => ?_)
  exact kk _ h2 H1 locs1 ls hl (by rw [← toW_set]; exact hP1) (by rw [List.length_set, hz1]; exact hz) hS1
theorem jv_zast (C : Cx Γ cc nL own ω hh mT sT) {a : Nat} {i x : Int32} (d : decode cc pc = .ok (.bastore, 1)) {K : Mem → Option ρ} (h : (mm_sI M a 3 i (vp_nar .boolean x)).bind K = some res) (kk : ∀ M, K M = some res → JJ Γ Q nL ω k M ce sl (pc + 1) lv st) : JJ Γ Q nL ω k M ce sl pc lv (.int x :: .int i :: .ref a :: st) := by
  obtain ⟨hx, hb, hml, hown, hts, hKW, hlk, hbs, hR⟩ := C
  intro H locs ls hl hP hz hS
  obtain ⟨v, h1, h2⟩ := Option.bind_eq_some_iff.mp h
  obtain ⟨n, f, h3, h4, rfl⟩ := mm_sI_spec h1
  refine mp_zast (D := ω.2.2.2) hx hb hKW.1 hP toW_D hS a 3 (toW_at h3) rfl h4 d (fun H1 locs1 hP1 hz1 hS1 => ?_)
  exact kk _ h2 H1 locs1 ls hl (by rw [← toW_set]; exact hP1) (by rw [List.length_set, hz1]; exact hz) hS1
theorem jv_last (C : Cx Γ cc nL own ω hh mT sT) {a : Nat} {i : Int32} {x : Int64} (d : decode cc pc = .ok (.lastore, 1)) {K : Mem → Option ρ} (h : (mm_sL M a i x).bind K = some res) (kk : ∀ M, K M = some res → JJ Γ Q nL ω k M ce sl (pc + 1) lv st) : JJ Γ Q nL ω k M ce sl pc lv (.long x :: .int i :: .ref a :: st) := by
  obtain ⟨hx, hb, hml, hown, hts, hKW, hlk, hbs, hR⟩ := C
  intro H locs ls hl hP hz hS
  obtain ⟨v, h1, h2⟩ := Option.bind_eq_some_iff.mp h
  obtain ⟨n, f, h3, h4, rfl⟩ := mm_sL_spec h1
  refine mp_last (D := ω.2.2.2) hx hb hKW.1 hP toW_D hS a 1 (toW_at h3) rfl h4 d (fun H1 locs1 hP1 hz1 hS1 => ?_)
  exact kk _ h2 H1 locs1 ls hl (by rw [← toW_set]; exact hP1) (by rw [List.length_set, hz1]; exact hz) hS1
theorem jv_aast (C : Cx Γ cc nL own ω hh mT sT) {a x : Nat} {i : Int32} (d : decode cc pc = .ok (.aastore, 1)) {K : Mem → Option ρ} (h : (mm_sR M a i x).bind K = some res) (kk : ∀ M, K M = some res → JJ Γ Q nL ω k M ce sl (pc + 1) lv st) : JJ Γ Q nL ω k M ce sl pc lv (.ref x :: .int i :: .ref a :: st) := by
  obtain ⟨hx, hb, hml, hown, hts, hKW, hlk, hbs, hR⟩ := C
  intro H locs ls hl hP hz hS
  obtain ⟨v, h1, h2⟩ := Option.bind_eq_some_iff.mp h
  obtain ⟨n, f, fs, h3, h4, h5, rfl⟩ := mm_sR_spec h1
  refine mp_astq (D := ω.2.2.2) (r := (RX7, TX7, 15)) hx hb hKW.1 hP toW_D hS a 4 x 7 (toW_at h3) rfl (toW_at h5) rfl h4 d (fun H1 locs1 hP1 hz1 hS1 => ?_)
  refine kk _ h2 H1 locs1 ls hl ?_ (by rw [List.length_set, hz1]; exact hz) hS1
  rw [← toW_set]
  have e : (fun j => ((va_up f i.toNatClampNeg (some x)) j).map (fun a => wz ω + a)) = va_up (fun j => (f j).map (fun a => wz ω + a)) i.toNatClampNeg (some (wz ω + x)) := by
    funext j
    unfold va_up
    split <;> rfl
  show va_P _ _ (List.set (toW ω M) a (wz ω + a, .inl (ω.2.2.1 4, n, .inr (.inr (.inr (.inr (fun j => ((va_up f i.toNatClampNeg (some x)) j).map (fun a => wz ω + a)))))))) H1
  rw [e]
  exact hP1
theorem jv_acopy (C : Cx Γ cc nL own ω (hh + 1) mT sT) {idx a0 a : Nat} {sp dp n : Int32} (g1 : Cond.methodLink own idx arraycopyName ∈ gd_L) (g2 : Cond.native arraycopyName ∈ gd_L) (g3 : Cond.static arraycopyName ∈ gd_L) (g4 : Cond.initialized "java/lang/System" ∈ gd_L) (d : decode cc pc = .ok (.invokestatic idx, 3)) (hst : (st.map fun v => v.category).sum + (nativeFrameWords "java/lang/System" "arraycopy" 5 + 11) ≤ 100) {K : Mem → Option ρ} (h : (mm_cp M a0 sp a dp n).bind K = some res) (kk : ∀ M, K M = some res → JJ Γ Q nL ω k M ce sl (pc + 3) lv st) : JJ Γ Q nL ω k M ce sl pc lv (.int n :: .int dp :: .ref a :: .int sp :: .ref a0 :: st) := by
  obtain ⟨hx, hb, hml, hown, hts, hKW, hlk, hbs, hR⟩ := C
  intro H locs ls hl hP hz hS
  obtain ⟨v, h1, h2⟩ := Option.bind_eq_some_iff.mp h
  obtain ⟨n0, f, n1, g, q1, q2, q3, q4, q5, q6, q7, rfl⟩ := mm_cp_spec h1
  have hcat : ((st.map (sh ω)).map fun v => v.category).sum = (st.map fun v => v.category).sum := by
    rw [List.map_map]; congr 2; funext v; exact sh_cat ω v
  refine mp_copyi (D := ω.2.2.2) hx hb (by rw [hml, hl.1]) hown (hts _ g1) (hts _ g2) (hts _ g3) (hts _ g4) hKW.1 hP toW_D hS a0 a 0 0 (toW_at q1) (toW_at q2) rfl rfl rfl q3 q4 q5 q6 q7 (fun _ _ => rfl) (by rw [hR]; exact Nat.succ_le_succ (Nat.zero_le _)) (by rw [hR, hcat]; show _ ≤ 100 * (hh + 1); omega) d (fun H1 locs1 hP1 hz1 hS1 => ?_)
  exact kk _ h2 H1 locs1 ls hl (by rw [← toW_set]; exact hP1) (by rw [List.length_set, hz1]; exact hz) hS1
/-! new cells (no cell beside the small heap may lie behind it: k = 0) -/
theorem jv_new (C : Cx Γ cc nL own ω hh mT sT) {idx ci N : Nat} {Cn : String} {T : u_T} {fs : List Value} (hc : cl_L[ci]? = some (Cn, T, N)) (hin : ∀ w ∈ u_ws Cn T N, w ∈ gd_L) (tf : Nat → FieldType) (hty : ∀ k, k < N → parseFieldDescriptor (T k).2.2.1 = some (tf k)) (g1 : Cond.classLink own idx Cn ∈ gd_L) (g2 : Cond.instantiable Cn N ∈ gd_L) (g3 : Cond.initialized Cn ∈ gd_L) (hfs : ∀ j, j < N → defaultValue (tf j) = vp_V (fs.map (sh ω)) j) (hce : ce + 1 ≤ mT) (hsl : sl + N ≤ sT) (d : decode cc pc = .ok (.new idx, 3)) (kk : JJ Γ Q nL ω 0 (M ++ [.inr (ci, fs)]) (ce + 1) (sl + N) (pc + 3) lv (.ref M.length :: st)) : JJ Γ Q nL ω 0 M ce sl pc lv st := by
  obtain ⟨hx, hb, hml, hown, hts, hKW, hlk, hbs, hR⟩ := C
  intro H locs ls hl hP hz hS
  refine mp_new (D := ω.2.2.2) (ci := ci) (fs := fs.map (sh ω)) (C := Cn) (T := T) (N := N) hx hb hts hin tf hty hown (hts _ g1) (hts _ g2) (hts _ g3) hKW.1 hP hS hc hfs (by rw [hR]; exact hce) (by rw [hR]; exact hsl) d (fun H1 hP1 hz1 hS1 => ?_)
  have e : H.size = wz ω + M.length := by rw [hz]; omega
  rw [e] at hP1 hz1 ⊢
  exact kk H1 locs ls hl (by rw [toW_app]; exact hP1) (by rw [hz1, List.length_append]; rfl) hS1
theorem jv_newa (C : Cx Γ cc nL own ω hh mT sT) {t lim by_ : Nat} {n : Int32} {at_ : ArrayType} {ty : FieldType} {a0 : Nat → vp_A} (g1 : Cond.arrayClass (newarray.typeOf at_) ∈ gd_L) (hty : newarray.typeOf at_ = ty) (ht : (ty_L ω)[t]? = some (ω.2.2.1 t, ty)) (hob : va_RA Γ.s (ω.2.2.1 t) ty → Γ.s.vm.findClass ("[" ++ ty.toString) = some (ω.2.2.1 t)) (ha : ∀ (N : Nat) (cA : ClassId), vp_cell cA (shA ω (a0 N)) = arrV cA N (fun _ => defaultValue ty)) (hby : componentBytes ty = by_) (hlim : lim * by_ ≤ 536870912) (hce : ce + 1 ≤ mT) (hsl : sl + lim ≤ sT) (d : decode cc pc = .ok (.newarray at_, 2)) {K : Nat × Mem → Option ρ} (h : (mm_nA M lim n (fun N => .inl (t, a0 N))).bind K = some res) (kk : ∀ a M, K (a, M) = some res → JJ Γ Q nL ω 0 M (ce + 1) (sl + lim) (pc + 2) lv (.ref a :: st)) : JJ Γ Q nL ω 0 M ce sl pc lv (.int n :: st) := by
  obtain ⟨hx, hb, hml, hown, hts, hKW, hlk, hbs, hR⟩ := C
  intro H locs ls hl hP hz hS
  obtain ⟨⟨a, M'⟩, h1, h2⟩ := Option.bind_eq_some_iff.mp h
  unfold mm_nA at h1
  split at h1
  · cases h1
  rename_i hn
  cases h1
  have hn1 : ¬ n < 0 := fun q => hn (Or.inl q)
  have hn2 : n.toNatClampNeg ≤ lim := Nat.not_lt.mp fun q => hn (Or.inr q)
  have hcA := hob (hKW.1.2 t _ ht).2
  refine mp_newa (D := ω.2.2.2) hx hb (hts _ g1) hty hP hS hcA (a0 := shA ω (a0 n.toNatClampNeg)) (ha _) hn1 rfl (by rw [hby]; exact Nat.le_trans (Nat.mul_le_mul_right _ hn2) hlim) (by rw [hR]; exact hce) (by rw [hR]; show sl + _ ≤ sT; omega) d (fun H1 hP1 hz1 hS1 => ?_)
  have e : H.size = wz ω + M.length := by rw [hz]; omega
  rw [e] at hP1 hz1 ⊢
  refine W.widen (k := ce + 1) (n := sl + lim) (Nat.le_refl _) (by omega) ?_
  exact kk _ _ h2 H1 locs ls hl (by rw [toW_app]; exact hP1) (by rw [hz1, List.length_append]; rfl) hS1
theorem jv_newq (C : Cx Γ cc nL own ω hh mT sT) {idx lim : Nat} {n : Int32} (g1 : Cond.classLink own idx "CoinSorter$State" ∈ gd_L) (g2 : Cond.arrayOver (.object "CoinSorter$State") ∈ gd_L) (hlim : lim * 4 ≤ 536870912) (hce : ce + 1 ≤ mT) (hsl : sl + lim ≤ sT) (d : decode cc pc = .ok (.anewarray idx, 3)) {K : Nat × Mem → Option ρ} (h : (mm_nA M lim n (fun N => .inl (4, N, .inr (.inr (.inr (.inr (fun _ => none))))))).bind K = some res) (kk : ∀ a M, K (a, M) = some res → JJ Γ Q nL ω 0 M (ce + 1) (sl + lim) (pc + 3) lv (.ref a :: st)) : JJ Γ Q nL ω 0 M ce sl pc lv (.int n :: st) := by
  obtain ⟨hx, hb, hml, hown, hts, hKW, hlk, hbs, hR⟩ := C
  intro H locs ls hl hP hz hS
  obtain ⟨⟨a, M'⟩, h1, h2⟩ := Option.bind_eq_some_iff.mp h
  unfold mm_nA at h1
  split at h1
  · cases h1
  rename_i hn
  cases h1
  have hn1 : ¬ n < 0 := fun q => hn (Or.inl q)
  have hn2 : n.toNatClampNeg ≤ lim := Nat.not_lt.mp fun q => hn (Or.inr q)
  obtain ⟨kA, comp, k1, k2, k3, k4⟩ := (hKW.1.2 4 (ω.2.2.1 4, .object "CoinSorter$State") rfl).2
  refine mp_newq (D := ω.2.2.2) hx hb hown (hts _ g1) (hts _ g2) hP hS k4 hn1 rfl (Nat.le_trans (Nat.mul_le_mul_right _ hn2) hlim) (by rw [hR]; exact hce) (by rw [hR]; show sl + _ ≤ sT; omega) d (fun H1 hP1 hz1 hS1 => ?_)
  have e : H.size = wz ω + M.length := by rw [hz]; omega
  rw [e] at hP1 hz1 ⊢
  refine W.widen (k := ce + 1) (n := sl + lim) (Nat.le_refl _) (by omega) ?_
  exact kk _ _ h2 H1 locs ls hl (by rw [toW_app]; exact hP1) (by rw [hz1, List.length_append]; rfl) hS1
/-! Math -/
theorem jv_mmax (C : Cx Γ cc nL own ω (hh + 1) mT sT) {idx : Nat} {x y : Int32} (g1 : Cond.methodLink own idx Lib.Math.max.name ∈ gd_L) (g2 : Cond.static Lib.Math.max.name ∈ gd_L) (g3 : Cond.initialized "java/lang/Math" ∈ gd_L) (g4 : Cond.code Lib.Math.max.name Lib.Math.max.code 2 (some .int) ∈ gd_L) (hce : ce ≤ mT) (hsl : sl ≤ sT) (hst : (st.map fun v => v.category).sum + 13 ≤ 100) (d : decode cc pc = .ok (.invokestatic idx, 3)) (kk : JJ Γ Q nL ω k M ce sl (pc + 3) lv (.int (if x < y then y else x) :: st)) : JJ Γ Q nL ω k M ce sl pc lv (.int y :: .int x :: st) := by
  obtain ⟨hx, hb, hml, hown, hts, hKW, hlk, hbs, hR⟩ := C
  intro H locs ls hl hP hz hS
  have hcat : ((st.map (sh ω)).map fun v => v.category).sum = (st.map fun v => v.category).sum := by
    rw [List.map_map]; congr 2; funext v; exact sh_cat ω v
  exact va_mmax hx hb (by rw [hml, hl.1]) hown (hts _ g1) (hts _ g2) (hts _ g3) (hts _ g4) (by rw [hR]; exact Nat.succ_le_succ (Nat.zero_le _)) (by rw [hR, hcat]; show _ ≤ 100 * (hh + 1); omega) (by rw [hR]; exact hce) (by rw [hR]; exact hsl) d (kk H locs ls hl hP hz hS)
theorem jv_mmin (C : Cx Γ cc nL own ω (hh + 1) mT sT) {idx : Nat} {x y : Int32} (g1 : Cond.methodLink own idx Lib.Math.min.name ∈ gd_L) (g2 : Cond.static Lib.Math.min.name ∈ gd_L) (g3 : Cond.initialized "java/lang/Math" ∈ gd_L) (g4 : Cond.code Lib.Math.min.name Lib.Math.min.code 2 (some .int) ∈ gd_L) (hce : ce ≤ mT) (hsl : sl ≤ sT) (hst : (st.map fun v => v.category).sum + 13 ≤ 100) (d : decode cc pc = .ok (.invokestatic idx, 3)) (kk : JJ Γ Q nL ω k M ce sl (pc + 3) lv (.int (if y < x then y else x) :: st)) : JJ Γ Q nL ω k M ce sl pc lv (.int y :: .int x :: st) := by
  obtain ⟨hx, hb, hml, hown, hts, hKW, hlk, hbs, hR⟩ := C
  intro H locs ls hl hP hz hS
  have hcat : ((st.map (sh ω)).map fun v => v.category).sum = (st.map fun v => v.category).sum := by
    rw [List.map_map]; congr 2; funext v; exact sh_cat ω v
  exact va_mmin hx hb (by rw [hml, hl.1]) hown (hts _ g1) (hts _ g2) (hts _ g3) (hts _ g4) (by rw [hR]; exact Nat.succ_le_succ (Nat.zero_le _)) (by rw [hR, hcat]; show _ ≤ 100 * (hh + 1); omega) (by rw [hR]; exact hce) (by rw [hR]; exact hsl) d (kk H locs ls hl hP hz hS)
theorem jv_mabs (C : Cx Γ cc nL own ω (hh + 1) mT sT) {idx : Nat} {x : Int32} (g1 : Cond.methodLink own idx Lib.Math.abs.name ∈ gd_L) (g2 : Cond.static Lib.Math.abs.name ∈ gd_L) (g3 : Cond.initialized "java/lang/Math" ∈ gd_L) (g4 : Cond.code Lib.Math.abs.name Lib.Math.abs.code 1 (some .int) ∈ gd_L) (hce : ce ≤ mT) (hsl : sl ≤ sT) (hst : (st.map fun v => v.category).sum + 13 ≤ 100) (d : decode cc pc = .ok (.invokestatic idx, 3)) (kk : JJ Γ Q nL ω k M ce sl (pc + 3) lv (.int (if 0 ≤ x then x else 0 - x) :: st)) : JJ Γ Q nL ω k M ce sl pc lv (.int x :: st) := by
  obtain ⟨hx, hb, hml, hown, hts, hKW, hlk, hbs, hR⟩ := C
  intro H locs ls hl hP hz hS
  have hcat : ((st.map (sh ω)).map fun v => v.category).sum = (st.map fun v => v.category).sum := by
    rw [List.map_map]; congr 2; funext v; exact sh_cat ω v
  exact va_mabs hx hb (by rw [hml, hl.1]) hown (hts _ g1) (hts _ g2) (hts _ g3) (hts _ g4) (by rw [hR]; exact Nat.succ_le_succ (Nat.zero_le _)) (by rw [hR, hcat]; show _ ≤ 100 * (hh + 1); omega) (by rw [hR]; exact hce) (by rw [hR]; exact hsl) d (kk H locs ls hl hP hz hS)
theorem jv_objInit (C : Cx Γ cc nL own ω (hh + 1) mT sT) {idx a : Nat} (g1 : Cond.methodLink own idx Lib.objectInit ∈ gd_L) (g2 : Cond.instanceMethod Lib.objectInit ∈ gd_L) (g3 : Cond.code Lib.objectInit ⟨#[0xb1]⟩ 1 none ∈ gd_L) (hst : (st.map fun v => v.category).sum + 12 ≤ 100) (d : decode cc pc = .ok (.invokespecial idx, 3)) (kk : JJ Γ Q nL ω k M ce sl (pc + 3) lv st) : JJ Γ Q nL ω k M ce sl pc lv (.ref a :: st) := by
  obtain ⟨hx, hb, hml, hown, hts, hKW, hlk, hbs, hR⟩ := C
  intro H locs ls hl hP hz hS
  have hcat : ((st.map (sh ω)).map fun v => v.category).sum = (st.map fun v => v.category).sum := by
    rw [List.map_map]; congr 2; funext v; exact sh_cat ω v
  exact W.objInit hx hb hown (hts _ g1) (hts _ g2) (hts _ g3) rfl (by rw [hml]; exact hl.1) rfl d (by rw [hR]; exact Nat.succ_le_succ (Nat.zero_le _)) (by rw [hR]; show 2 * 0 + _ + 12 ≤ 100 * (hh + 1); rw [hcat]; omega) (kk H locs ls hl hP hz hS)
/-! contracts and calls -/
def PC (ω : Wd) (k : Nat) (M : Mem) (av : List Value) : Array Value → State → Prop := fun v U => v = (av.map (sh ω)).toArray ∧ KW ω U ∧ va_P ω.2.2.2 cl_L (toW ω M) U.heap ∧ U.heap.size = wz ω + M.length + k ∧ ∀ q, q < wz ω → U.heap[q]? = ω.1[q]?
def QC (ω : Wd) (k : Nat) (r : Option Value) (M' : Mem) : Array Value → State → Outcome → State → Prop := fun _ st o t => o = .returned (r.map (sh ω)) ∧ va_P ω.2.2.2 cl_L (toW ω M') t.heap ∧ t.heap.size = wz ω + M'.length + k ∧ va_F (mA ω) st t
/-- method y, at height h over the leaves, from the small heap M comes to M' and answers r -/
def CM (l : Launch) (ω : Wd) (k : Nat) (y : MethodName) (cc : ByteArray) (mL : Nat) (ret : Option FieldType) (h mc ms : Nat) (av : List Value) (M : Mem) (r : Option Value) (M' : Mem) : Prop :=
  Met l y (Cond.code y cc mL ret :: gd_L) (rm_ h mc ms) (PC ω k M av) (QC ω k r M') mc ms (mA ω)
abbrev QF (Γ : Gm) (ω : Wd) (k mc ms : Nat) (r : Option Value) (M' : Mem) : State → Prop := MQ Γ.below (QC ω k r M') Γ.args Γ.s mc ms (mA ω)
theorem PC.blind {ω : Wd} {k : Nat} {M : Mem} {av : List Value} : FrameBlind (PC ω k M av) := fun _ _ _ _ h => ⟨h.1, h.2.1.calling, h.2.2⟩
theorem gd_in {y : MethodName} {cc : ByteArray} {mL : Nat} {ret : Option FieldType} (h : Cond.code y cc mL ret ∈ gd_L) : GoodIn gd_L (Cond.code y cc mL ret :: gd_L) := fun w hw => by
  rcases List.mem_cons.mp hw with rfl | hw
  · exact ⟨h, good_of_word (gd_good h)⟩
  · exact ⟨hw, good_of_word (gd_good hw)⟩
theorem jv_iret (C : Cx Γ cc nL own ω hh mT sT) (hr : Γ.meth.sig.returnType = some .int) {x : Int32} {r : Int32} {M' : Mem} (d : decode cc pc = .ok (.ireturn, 1)) (h : some (x, M) = some (r, M')) : JJ Γ (QF Γ ω k ce sl (some (.int r)) M') nL ω k M ce sl pc lv [.int x] := by
  obtain ⟨hx, hb, hml, hown, hts, hKW, hlk, hbs, hR⟩ := C
  intro H locs ls hl hP hz hS
  cases h
  exact W.iret hx hb hr (fun t ht hW => ⟨rfl, by rw [ht]; exact hP, by rw [ht]; exact hz, hS.F ht⟩) hS.2.2 d hlk
theorem jv_zret (C : Cx Γ cc nL own ω hh mT sT) (hr : Γ.meth.sig.returnType = some .boolean) {x : Int32} {r : Int32} {M' : Mem} (d : decode cc pc = .ok (.ireturn, 1)) (h : (if x = 0 ∨ x = 1 then some (x, M) else none) = some (r, M')) : JJ Γ (QF Γ ω k ce sl (some (.int r)) M') nL ω k M ce sl pc lv [.int x] := by
  obtain ⟨hx, hb, hml, hown, hts, hKW, hlk, hbs, hR⟩ := C
  intro H locs ls hl hP hz hS
  split at h
  · rename_i hz1
    cases h
    exact W.zret hx hb hr (by rcases hz1 with rfl | rfl <;> rfl) (fun t ht hW => ⟨rfl, by rw [ht]; exact hP, by rw [ht]; exact hz, hS.F ht⟩) hS.2.2 d hlk
  · cases h
theorem jv_vret (C : Cx Γ cc nL own ω hh mT sT) (hr : Γ.meth.sig.returnType = none) {r : Unit} {M' : Mem} (d : decode cc pc = .ok (.return_, 1)) (h : some ((), M) = some (r, M')) : JJ Γ (QF Γ ω k ce sl none M') nL ω k M ce sl pc lv [] := by
  obtain ⟨hx, hb, hml, hown, hts, hKW, hlk, hbs, hR⟩ := C
  intro H locs ls hl hP hz hS
  cases h
  exact W.vret hx hb hr (fun t ht hW => ⟨rfl, by rw [ht]; exact hP, by rw [ht]; exact hz, hS.F ht⟩) hS.2.2 d hlk
theorem jv_widen {ce' sl' : Nat} (h1 : ce ≤ ce') (h2 : sl ≤ sl') (kk : JJ Γ Q nL ω k M ce' sl' pc lv st) : JJ Γ Q nL ω k M ce sl pc lv st := fun H locs ls hl hP hz hS => W.widen h1 h2 (kk H locs ls hl hP hz hS)
theorem jv_back {H : Heap} {locs : List Loc} {ls : Array Slot} {st0 rest : List Value} {a : Array Value} {r : Option Value} {M' : Mem} {mc ms : Nat} (hr : va_Run Γ.1 Γ.2.1 Γ.2.2.1 Γ.2.2.2.1 Γ.s Γ.m Γ.args Γ.below Γ.meth Γ.c H locs ce sl mc ms (F0 Γ.m pc ls st0) rest (QC ω k r M' a) (mA ω)) (hS : va_S (mA ω) Γ.s.heap H locs)
    (kk : ∀ (H1 : Heap) (locs1 : List Loc), va_P ω.2.2.2 cl_L (toW ω M') H1 → H1.size = wz ω + M'.length + k → va_S (mA ω) Γ.s.heap H1 locs1 → W Γ.1 Γ.2.1 Γ.2.2.1 Γ.2.2.2.1 Γ.s Γ.m Γ.args Γ.below Γ.meth Γ.c H1 locs1 (ce + mc) (sl + ms) Q (F0 Γ.m (pc + 3) ls ((r.map (sh ω)).toList ++ rest))) :
    W Γ.1 Γ.2.1 Γ.2.2.1 Γ.2.2.2.1 Γ.s Γ.m Γ.args Γ.below Γ.meth Γ.c H locs ce sl Q (F0 Γ.m pc ls st0) := by
  intro T hT X
  obtain ⟨v, st₀, t, T', L, h0, X', hL, e1, e2, ⟨hv, hP1, hz1, hF⟩, stp⟩ := hr T hT X
  cases hv
  obtain ⟨f1, f2⟩ := hF
  rw [h0] at f1 f2
  obtain ⟨t2, a1, b1⟩ := kk T'.heap (locs ++ L) (by rw [e1]; exact hP1) (by rw [e1]; exact hz1)
    ⟨Nat.le_trans hS.1 (by rw [e1]; exact f1), fun q h1 h2 => by rw [e1, f2 q (Nat.lt_of_lt_of_le h1 hS.1) h2]; exact hS.2.1 q h1 h2, fun q hq => by
      rcases List.mem_append.mp hq with h | h
      · exact hS.2.2 q h
      · exact hL q h⟩ T' rfl X'
  exact ⟨t2, stp t2 a1, b1⟩
def jv_LB (own : String) (idx : Nat) (y : MethodName) (cc : ByteArray) (mL : Nat) (ret : Option FieldType) (n : Nat) : Prop := (Cond.methodLink own idx y ∈ gd_L ∨ ∃ host, Cond.methodLinkNest own idx y host ∈ ns_L) ∧ Cond.initialized y.cls ∈ gd_L ∧ Cond.code y cc mL ret ∈ gd_L ∧ (y.cls ≠ "java/lang/invoke/MethodHandle" ∧ y.cls ≠ "java/lang/invoke/VarHandle" ∧ (parseMethodDescriptor y.desc).map (fun d => d.parameters.length) = some n) ∧ mL ≤ 81
def jv_LV (own : String) (idx : Nat) (y : MethodName) (cc : ByteArray) (mL : Nat) (ret : Option FieldType) (n : Nat) : Prop := jv_LB own idx y cc mL ret n ∧ Cond.instanceMethod y ∈ gd_L ∧ Cond.selects y.cls y y ∈ gd_L
def jv_LS (own : String) (idx : Nat) (y : MethodName) (cc : ByteArray) (mL : Nat) (ret : Option FieldType) (n : Nat) : Prop := jv_LB own idx y cc mL ret n ∧ Cond.static y ∈ gd_L
def jv_LI (own : String) (idx : Nat) (y : MethodName) (cc : ByteArray) (mL : Nat) (n : Nat) : Prop := jv_LB own idx y cc mL none n ∧ y.name = "<init>" ∧ Cond.instanceMethod y ∈ gd_L
theorem jv_pre {H : Heap} {locs : List Loc} {U : State} {av : List Value} (hKW : KW ω Γ.s) (hbs : wz ω ≤ Γ.s.heap.size ∧ ∀ q, q < wz ω → Γ.s.heap[q]? = ω.1[q]?) (hP : va_P ω.2.2.2 cl_L (toW ω M) H) (hz : H.size = wz ω + M.length + k) (hS : va_S (mA ω) Γ.s.heap H locs) (hU : U.heap = H) (hW : Γ.s.WarmedH U.vm) : PC ω k M av (av.map (sh ω)).toArray U := by
  refine ⟨rfl, hKW.warm hW, by rw [hU]; exact hP, by rw [hU]; exact hz, fun q hq => ?_⟩
  rw [hU, hS.2.1 q (Nat.lt_of_lt_of_le hq hbs.1) (Nat.not_le.mpr hq)]
  exact hbs.2 q hq
theorem jv_callV (C : Cx Γ cc nL own ω hh mT sT) {idx a ci n mL h' mc ms : Nat} {y : MethodName} {c' : ByteArray} {ret : Option FieldType} {T : u_T} {N : Nat} {As stk : List Value} {r : Option Value} {M' : Mem} (L : jv_LV own idx y c' mL ret n) (hc : cl_L[ci]? = some (y.cls, T, N)) {u : Unit} (hk : mm_ck M a ci = some u) (d : decode cc pc = .ok (.invokevirtual idx, 3)) (hn : As.length = n) (hst : stk = As.reverse ++ .ref a :: st) (hh1 : h' + 1 ≤ hh) (hce : ce + mc ≤ mT) (hsl : sl + ms ≤ sT) (hcat : (st.map fun v => v.category).sum ≤ 8)
    (ct : CM Γ.2.1 ω k y c' mL ret h' mc ms (.ref a :: As) M r M') (kk : JJ Γ Q nL ω k M' (ce + mc) (sl + ms) (pc + 3) lv (r.toList ++ st)) : JJ Γ Q nL ω k M ce sl pc lv stk := by
  obtain ⟨hx, hb, hml, hown, hts, hKW, hlk, hbs, hR⟩ := C
  obtain ⟨⟨lk, li, lc, ld, lm⟩, l1, l2⟩ := L
  intro H locs ls hl hP hz hS
  obtain ⟨fs, hfs⟩ := mm_ck_spec hk
  have hcat' : ((st.map (sh ω)).map fun v => v.category).sum ≤ 8 := by
    rw [List.map_map]; rw [show (fun v : Value => v.category) ∘ sh ω = (fun v : Value => v.category) from funext (sh_cat ω)]; exact hcat
  have hrm : (rm_ h' mc ms).frames + 1 ≤ Γ.2.2.2.1.frames ∧ 8 + (mL + 11) + (rm_ h' mc ms).locals ≤ Γ.2.2.2.1.locals := by
    rw [hR]; exact ⟨hh1, by show 8 + (mL + 11) + 100 * h' ≤ 100 * hh; omega⟩
  have hpre : PreV Γ.s H y.cls (wz ω + a) (PC ω k M (.ref a :: As)) (As.map (sh ω)) := ⟨PC.blind, va_recv hKW.1 hP hc (q0 := a) (toW_at hfs), fun U hU hW => jv_pre (av := .ref a :: As) hKW hbs hP hz hS hU hW⟩
  have hstk : stk.map (sh ω) = (As.map (sh ω)).reverse ++ .ref (wz ω + a) :: st.map (sh ω) := by rw [hst]; simp [sh]
  have hce' : ce + mc ≤ Γ.2.2.2.1.cells ∧ sl + ms ≤ Γ.2.2.2.1.slots := by rw [hR]; exact ⟨hce, hsl⟩
  have hfin : ∀ (H1 : Heap) (locs1 : List Loc), va_P ω.2.2.2 cl_L (toW ω M') H1 → H1.size = wz ω + M'.length + k → va_S (mA ω) Γ.s.heap H1 locs1 → W Γ.1 Γ.2.1 Γ.2.2.1 Γ.2.2.2.1 Γ.s Γ.m Γ.args Γ.below Γ.meth Γ.c H1 locs1 (ce + mc) (sl + ms) Q (F0 Γ.m (pc + 3) ls ((r.map (sh ω)).toList ++ st.map (sh ω))) := fun H1 locs1 hP1 hz1 hS1 => by
    have h9 := kk H1 locs1 ls hl hP1 hz1 hS1
    rw [List.map_append, show r.toList.map (sh ω) = (r.map (sh ω)).toList by cases r <;> rfl] at h9
    exact h9
  rcases lk with lk | ⟨host, lk⟩
  · exact jv_back (va_runV (As := As.map (sh ω)) (rest := st.map (sh ω)) (b := wz ω + a) (C := y.cls) (Ts := gd_L) ⟨hx, hb, hml, hown, hts⟩ ct ⟨callB_of n hts (gd_in lc) rfl rfl rfl (hts _ li) (hts _ lk) ld hrm, hts _ l1, hts _ l2⟩ hpre rfl (by rw [List.length_map]; exact hn) hl.1 hstk (lv_room hcat') d hce') hS hfin
  · exact jv_back (va_runVN (As := As.map (sh ω)) (rest := st.map (sh ω)) (b := wz ω + a) (C := y.cls) (Ts := gd_L) ⟨hx, hb, hml, hown, hts⟩ ct ⟨va_cnB n hts (gd_in lc) rfl rfl rfl (hKW.2 _ lk) (hts _ li) ld hrm, hts _ l1, hts _ l2⟩ hpre rfl (by rw [List.length_map]; exact hn) hl.1 hstk (lv_room hcat') d hce') hS hfin
theorem jv_callS (C : Cx Γ cc nL own ω hh mT sT) {idx n mL h' mc ms : Nat} {y : MethodName} {c' : ByteArray} {ret : Option FieldType} {As stk : List Value} {r : Option Value} {M' : Mem} (L : jv_LS own idx y c' mL ret n) (d : decode cc pc = .ok (.invokestatic idx, 3)) (hn : As.length = n) (hst : stk = As.reverse ++ st) (hh1 : h' + 1 ≤ hh) (hce : ce + mc ≤ mT) (hsl : sl + ms ≤ sT) (hcat : (st.map fun v => v.category).sum ≤ 8)
    (ct : CM Γ.2.1 ω k y c' mL ret h' mc ms As M r M') (kk : JJ Γ Q nL ω k M' (ce + mc) (sl + ms) (pc + 3) lv (r.toList ++ st)) : JJ Γ Q nL ω k M ce sl pc lv stk := by
  obtain ⟨hx, hb, hml, hown, hts, hKW, hlk, hbs, hR⟩ := C
  obtain ⟨⟨lk, li, lc, ld, lm⟩, l1⟩ := L
  intro H locs ls hl hP hz hS
  have hcat' : ((st.map (sh ω)).map fun v => v.category).sum ≤ 8 := by
    rw [List.map_map]; rw [show (fun v : Value => v.category) ∘ sh ω = (fun v : Value => v.category) from funext (sh_cat ω)]; exact hcat
  have hrm : (rm_ h' mc ms).frames + 1 ≤ Γ.2.2.2.1.frames ∧ 8 + (mL + 11) + (rm_ h' mc ms).locals ≤ Γ.2.2.2.1.locals := by
    rw [hR]; exact ⟨hh1, by show 8 + (mL + 11) + 100 * h' ≤ 100 * hh; omega⟩
  have hpre : PreS Γ.s H (PC ω k M As) (As.map (sh ω)) := ⟨PC.blind, fun U hU hW => jv_pre (av := As) hKW hbs hP hz hS hU hW⟩
  have hstk : stk.map (sh ω) = (As.map (sh ω)).reverse ++ st.map (sh ω) := by rw [hst]; simp
  have hce' : ce + mc ≤ Γ.2.2.2.1.cells ∧ sl + ms ≤ Γ.2.2.2.1.slots := by rw [hR]; exact ⟨hce, hsl⟩
  have hfin : ∀ (H1 : Heap) (locs1 : List Loc), va_P ω.2.2.2 cl_L (toW ω M') H1 → H1.size = wz ω + M'.length + k → va_S (mA ω) Γ.s.heap H1 locs1 → W Γ.1 Γ.2.1 Γ.2.2.1 Γ.2.2.2.1 Γ.s Γ.m Γ.args Γ.below Γ.meth Γ.c H1 locs1 (ce + mc) (sl + ms) Q (F0 Γ.m (pc + 3) ls ((r.map (sh ω)).toList ++ st.map (sh ω))) := fun H1 locs1 hP1 hz1 hS1 => by
    have h9 := kk H1 locs1 ls hl hP1 hz1 hS1
    rw [List.map_append, show r.toList.map (sh ω) = (r.map (sh ω)).toList by cases r <;> rfl] at h9
    exact h9
  rcases lk with lk | ⟨host, lk⟩
  · exact jv_back (va_runS (As := As.map (sh ω)) (rest := st.map (sh ω)) (Ts := gd_L) ⟨hx, hb, hml, hown, hts⟩ ct ⟨callB_of n hts (gd_in lc) rfl rfl rfl (hts _ li) (hts _ lk) ld hrm, hts _ l1⟩ hpre rfl (by rw [List.length_map]; exact hn) hl.1 hstk (lv_room hcat') d hce') hS hfin
  · exact jv_back (va_runSN (As := As.map (sh ω)) (rest := st.map (sh ω)) (Ts := gd_L) ⟨hx, hb, hml, hown, hts⟩ ct ⟨va_cnB n hts (gd_in lc) rfl rfl rfl (hKW.2 _ lk) (hts _ li) ld hrm, hts _ l1, trivial⟩ hpre rfl (by rw [List.length_map]; exact hn) hl.1 hstk (lv_room hcat') d hce') hS hfin
theorem jv_callI (C : Cx Γ cc nL own ω hh mT sT) {idx a n mL h' mc ms : Nat} {y : MethodName} {c' : ByteArray} {As stk : List Value} {M' : Mem} (L : jv_LI own idx y c' mL n) (d : decode cc pc = .ok (.invokespecial idx, 3)) (hn : As.length = n) (hst : stk = As.reverse ++ .ref a :: st) (hh1 : h' + 1 ≤ hh) (hce : ce + mc ≤ mT) (hsl : sl + ms ≤ sT) (hcat : (st.map fun v => v.category).sum ≤ 8)
    (ct : CM Γ.2.1 ω k y c' mL none h' mc ms (.ref a :: As) M none M') (kk : JJ Γ Q nL ω k M' (ce + mc) (sl + ms) (pc + 3) lv st) : JJ Γ Q nL ω k M ce sl pc lv stk := by
  obtain ⟨hx, hb, hml, hown, hts, hKW, hlk, hbs, hR⟩ := C
  obtain ⟨⟨lk, li, lc, ld, lm⟩, l1, l2⟩ := L
  intro H locs ls hl hP hz hS
  have hcat' : ((st.map (sh ω)).map fun v => v.category).sum ≤ 8 := by
    rw [List.map_map]; rw [show (fun v : Value => v.category) ∘ sh ω = (fun v : Value => v.category) from funext (sh_cat ω)]; exact hcat
  have hrm : (rm_ h' mc ms).frames + 1 ≤ Γ.2.2.2.1.frames ∧ 8 + (mL + 11) + (rm_ h' mc ms).locals ≤ Γ.2.2.2.1.locals := by
    rw [hR]; exact ⟨hh1, by show 8 + (mL + 11) + 100 * h' ≤ 100 * hh; omega⟩
  have hpre : PreS Γ.s H (PC ω k M (.ref a :: As)) (.ref (wz ω + a) :: As.map (sh ω)) := ⟨PC.blind, fun U hU hW => jv_pre (av := .ref a :: As) hKW hbs hP hz hS hU hW⟩
  have hstk : stk.map (sh ω) = (As.map (sh ω)).reverse ++ .ref (wz ω + a) :: st.map (sh ω) := by rw [hst]; simp [sh]
  have hce' : ce + mc ≤ Γ.2.2.2.1.cells ∧ sl + ms ≤ Γ.2.2.2.1.slots := by rw [hR]; exact ⟨hce, hsl⟩
  have hfin : ∀ (H1 : Heap) (locs1 : List Loc), va_P ω.2.2.2 cl_L (toW ω M') H1 → H1.size = wz ω + M'.length + k → va_S (mA ω) Γ.s.heap H1 locs1 → W Γ.1 Γ.2.1 Γ.2.2.1 Γ.2.2.2.1 Γ.s Γ.m Γ.args Γ.below Γ.meth Γ.c H1 locs1 (ce + mc) (sl + ms) Q (F0 Γ.m (pc + 3) ls (((none : Option Value).map (sh ω)).toList ++ st.map (sh ω))) := fun H1 locs1 hP1 hz1 hS1 => kk H1 locs1 ls hl hP1 hz1 hS1
  rcases lk with lk | ⟨host, lk⟩
  · exact jv_back (va_runI (As := As.map (sh ω)) (rest := st.map (sh ω)) (b := wz ω + a) (Ts := gd_L) ⟨hx, hb, hml, hown, hts⟩ ct ⟨callB_of n hts (gd_in lc) rfl rfl rfl (hts _ li) (hts _ lk) ld hrm, l1, hts _ l2⟩ hpre rfl (by rw [List.length_map]; exact hn) hl.1 hstk (lv_room hcat') d hce') hS hfin
  · exact jv_back (va_runIN (As := As.map (sh ω)) (rest := st.map (sh ω)) (b := wz ω + a) (Ts := gd_L) ⟨hx, hb, hml, hown, hts⟩ ct ⟨va_cnB n hts (gd_in lc) rfl rfl rfl (hKW.2 _ lk) (hts _ li) ld hrm, l1, hts _ l2⟩ hpre rfl (by rw [List.length_map]; exact hn) hl.1 hstk (lv_room hcat') d hce') hS hfin
end JV
/-- a method's contract out of its walk -/
theorem CM.of {l : Launch} {ω : Wd} {k : Nat} {y : MethodName} {cc : ByteArray} {mL : Nat} {ret : Option FieldType} {h mc ms : Nat} {av : List Value} {M M' : Mem} {r : Option Value} (hy : plainName y.cls = true) (hlen : (lg_sl av).length ≤ mL)
    (body : ∀ Γ : Gm, Γ.2.1 = l → Cx Γ cc mL y.cls ω h mc ms → Γ.meth.sig.returnType = ret → Γ.meth.name = y.name → JJ Γ (QF Γ ω k mc ms r M') mL ω k M 0 0 0 (lv_args 0 av) []) : CM l ω k y cc mL ret h mc ms av M r M' := by
  refine Met.ofW (cc := cc) (maxL := mL) (ret := ret) hy rfl ?_
  intro p e s m args below meth c s₁ B hml hv
  obtain ⟨rfl, hKW, hP, hz, hb0⟩ := hv
  have hts := atoms_spec (ws := Cond.code y cc mL ret :: gd_L) B.pre
  have hC : Cx (p, l, e, rm_ h mc ms, s, m, (av.map (sh ω)).toArray, below, meth, c) cc mL y.cls ω h mc ms := ⟨B.exec, B.bytes, hml, findClass_of_methodNamed B.named, fun w hw => hts w (List.mem_cons_of_mem _ hw), hKW, B.notSynchronized, ⟨by show wz ω ≤ s.heap.size; omega, hb0⟩, rfl⟩
  have hb1 := body (p, l, e, rm_ h mc ms, s, m, (av.map (sh ω)).toArray, below, meth, c) rfl hC B.returns (name_of_methodNamed B.named B.method).1
  have hsl : (lg_sl (av.map (sh ω))).length = (lg_sl av).length := by
    clear hb1 hC hts hP hz hb0 hKW B hml body hlen
    induction av with
    | nil => rfl
    | cons v vs ih =>
      simp only [lg_sl, List.map_cons, List.flatMap_cons, List.length_append, sh_cat] at ih ⊢
      rw [ih]
      congr 1
      split <;> rfl
  have hl := lv_entry (av.map (sh ω)) (n := mL) (by rw [hsl]; exact hlen)
  rw [shL_args] at hl
  rw [lg_entry_eq]
  exact hb1 s.heap [] _ hl hP hz va_S.rf
end
