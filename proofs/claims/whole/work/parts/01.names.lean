/-- a private method of a class that the tables say can be made, by its rows of tables_1 -/
def lw_okq (q : MethodName × Nat) : Prop := (q.1.cls ≠ "java/lang/invoke/MethodHandle" ∧ q.1.cls ≠ "java/lang/invoke/VarHandle") ∧ Cond.instantiable q.1.cls q.2 ∈ tables_1 ∧ Cond.privateMethod q.1 ∈ tables_1 ∧ Cond.instanceMethod q.1 ∈ tables_1
theorem lw_p0 : lw_okq (⟨"HandshakeBinds", "isTrader", "(I)Z"⟩, 7) := ⟨⟨by decide +kernel, by decide +kernel⟩, List.mem_of_getElem? (i := 20) (by decide +kernel), List.mem_of_getElem? (i := 299) (by decide +kernel), List.mem_of_getElem? (i := 300) (by decide +kernel)⟩
theorem lw_p1 : lw_okq (⟨"HandshakeBinds$Ledger", "cannotPay", "(III)Z"⟩, 4) := ⟨⟨by decide +kernel, by decide +kernel⟩, List.mem_of_getElem? (i := 34) (by decide +kernel), List.mem_of_getElem? (i := 334) (by decide +kernel), List.mem_of_getElem? (i := 335) (by decide +kernel)⟩
theorem lw_p2 : lw_okq (⟨"HandshakeBinds", "refusedPair", "(II)I"⟩, 7) := ⟨⟨by decide +kernel, by decide +kernel⟩, List.mem_of_getElem? (i := 20) (by decide +kernel), List.mem_of_getElem? (i := 348) (by decide +kernel), List.mem_of_getElem? (i := 349) (by decide +kernel)⟩
theorem lw_p3 : lw_okq (⟨"HandshakeBinds", "held", "()LHandshakeBinds$Exchange;"⟩, 7) := ⟨⟨by decide +kernel, by decide +kernel⟩, List.mem_of_getElem? (i := 20) (by decide +kernel), List.mem_of_getElem? (i := 366) (by decide +kernel), List.mem_of_getElem? (i := 367) (by decide +kernel)⟩
theorem lw_p4 : lw_okq (⟨"HandshakeBinds$Market", "readWith", "(LHandshakeBinds$Exchange;IIIII)I"⟩, 11) := ⟨⟨by decide +kernel, by decide +kernel⟩, List.mem_of_getElem? (i := 28) (by decide +kernel), List.mem_of_getElem? (i := 379) (by decide +kernel), List.mem_of_getElem? (i := 380) (by decide +kernel)⟩
theorem lw_p5 : lw_okq (⟨"HandshakeBinds$Exchange", "holds", "(IILHandshakeBinds$Facts;)Z"⟩, 6) := ⟨⟨by decide +kernel, by decide +kernel⟩, List.mem_of_getElem? (i := 159) (by decide +kernel), List.mem_of_getElem? (i := 388) (by decide +kernel), List.mem_of_getElem? (i := 389) (by decide +kernel)⟩
theorem lw_p6 : lw_okq (⟨"HandshakeBinds$Facts", "valueOf", "(I)I"⟩, 6) := ⟨⟨by decide +kernel, by decide +kernel⟩, List.mem_of_getElem? (i := 75) (by decide +kernel), List.mem_of_getElem? (i := 396) (by decide +kernel), List.mem_of_getElem? (i := 397) (by decide +kernel)⟩
theorem lw_p7 : lw_okq (⟨"HandshakeBinds$Market", "heard", "(I)I"⟩, 11) := ⟨⟨by decide +kernel, by decide +kernel⟩, List.mem_of_getElem? (i := 28) (by decide +kernel), List.mem_of_getElem? (i := 400) (by decide +kernel), List.mem_of_getElem? (i := 401) (by decide +kernel)⟩
theorem lw_p8 : lw_okq (⟨"HandshakeBinds$Scribe", "readClause", "()Z"⟩, 7) := ⟨⟨by decide +kernel, by decide +kernel⟩, List.mem_of_getElem? (i := 152) (by decide +kernel), List.mem_of_getElem? (i := 463) (by decide +kernel), List.mem_of_getElem? (i := 464) (by decide +kernel)⟩
theorem lw_p9 : lw_okq (⟨"HandshakeBinds$Scribe", "next", "()I"⟩, 7) := ⟨⟨by decide +kernel, by decide +kernel⟩, List.mem_of_getElem? (i := 152) (by decide +kernel), List.mem_of_getElem? (i := 467) (by decide +kernel), List.mem_of_getElem? (i := 468) (by decide +kernel)⟩
theorem lw_p10 : lw_okq (⟨"HandshakeBinds$Scribe", "take", "(I)Z"⟩, 7) := ⟨⟨by decide +kernel, by decide +kernel⟩, List.mem_of_getElem? (i := 152) (by decide +kernel), List.mem_of_getElem? (i := 522) (by decide +kernel), List.mem_of_getElem? (i := 523) (by decide +kernel)⟩
theorem lw_p11 : lw_okq (⟨"HandshakeBinds$Scribe", "readNumber", "()I"⟩, 7) := ⟨⟨by decide +kernel, by decide +kernel⟩, List.mem_of_getElem? (i := 152) (by decide +kernel), List.mem_of_getElem? (i := 526) (by decide +kernel), List.mem_of_getElem? (i := 527) (by decide +kernel)⟩
theorem lw_p12 : lw_okq (⟨"HandshakeBinds$Scribe", "readCondition", "(I)Z"⟩, 7) := ⟨⟨by decide +kernel, by decide +kernel⟩, List.mem_of_getElem? (i := 152) (by decide +kernel), List.mem_of_getElem? (i := 531) (by decide +kernel), List.mem_of_getElem? (i := 532) (by decide +kernel)⟩
theorem lw_p13 : lw_okq (⟨"HandshakeBinds$Scribe", "readFactor", "(I)Z"⟩, 7) := ⟨⟨by decide +kernel, by decide +kernel⟩, List.mem_of_getElem? (i := 152) (by decide +kernel), List.mem_of_getElem? (i := 535) (by decide +kernel), List.mem_of_getElem? (i := 536) (by decide +kernel)⟩
theorem lw_p14 : lw_okq (⟨"HandshakeBinds$Scribe", "readTest", "()Z"⟩, 7) := ⟨⟨by decide +kernel, by decide +kernel⟩, List.mem_of_getElem? (i := 152) (by decide +kernel), List.mem_of_getElem? (i := 544) (by decide +kernel), List.mem_of_getElem? (i := 545) (by decide +kernel)⟩
theorem lw_p15 : lw_okq (⟨"HandshakeBinds$Ledger", "ringFrom", "(IIII)I"⟩, 4) := ⟨⟨by decide +kernel, by decide +kernel⟩, List.mem_of_getElem? (i := 34) (by decide +kernel), List.mem_of_getElem? (i := 574) (by decide +kernel), List.mem_of_getElem? (i := 575) (by decide +kernel)⟩
def lw_privs_1 : List (MethodName × Nat) := [(⟨"HandshakeBinds", "isTrader", "(I)Z"⟩, 7), (⟨"HandshakeBinds$Ledger", "cannotPay", "(III)Z"⟩, 4), (⟨"HandshakeBinds", "refusedPair", "(II)I"⟩, 7), (⟨"HandshakeBinds", "held", "()LHandshakeBinds$Exchange;"⟩, 7), (⟨"HandshakeBinds$Market", "readWith", "(LHandshakeBinds$Exchange;IIIII)I"⟩, 11), (⟨"HandshakeBinds$Exchange", "holds", "(IILHandshakeBinds$Facts;)Z"⟩, 6), (⟨"HandshakeBinds$Facts", "valueOf", "(I)I"⟩, 6), (⟨"HandshakeBinds$Market", "heard", "(I)I"⟩, 11), (⟨"HandshakeBinds$Scribe", "readClause", "()Z"⟩, 7), (⟨"HandshakeBinds$Scribe", "next", "()I"⟩, 7), (⟨"HandshakeBinds$Scribe", "take", "(I)Z"⟩, 7), (⟨"HandshakeBinds$Scribe", "readNumber", "()I"⟩, 7), (⟨"HandshakeBinds$Scribe", "readCondition", "(I)Z"⟩, 7), (⟨"HandshakeBinds$Scribe", "readFactor", "(I)Z"⟩, 7), (⟨"HandshakeBinds$Scribe", "readTest", "()Z"⟩, 7), (⟨"HandshakeBinds$Ledger", "ringFrom", "(IIII)I"⟩, 4)]
theorem lw_r1 : ∀ q ∈ lw_privs_1, lw_okq q := List.forall_mem_cons.mpr ⟨lw_p0, List.forall_mem_cons.mpr ⟨lw_p1, List.forall_mem_cons.mpr ⟨lw_p2, List.forall_mem_cons.mpr ⟨lw_p3, List.forall_mem_cons.mpr ⟨lw_p4, List.forall_mem_cons.mpr ⟨lw_p5, List.forall_mem_cons.mpr ⟨lw_p6, List.forall_mem_cons.mpr ⟨lw_p7, List.forall_mem_cons.mpr ⟨lw_p8, List.forall_mem_cons.mpr ⟨lw_p9, List.forall_mem_cons.mpr ⟨lw_p10, List.forall_mem_cons.mpr ⟨lw_p11, List.forall_mem_cons.mpr ⟨lw_p12, List.forall_mem_cons.mpr ⟨lw_p13, List.forall_mem_cons.mpr ⟨lw_p14, List.forall_mem_cons.mpr ⟨lw_p15, fun _ h => absurd h List.not_mem_nil⟩⟩⟩⟩⟩⟩⟩⟩⟩⟩⟩⟩⟩⟩⟩⟩
theorem lw_p16 : lw_okq (⟨"HandshakeBinds$Ledger", "pay", "(II)V"⟩, 4) := ⟨⟨by decide +kernel, by decide +kernel⟩, List.mem_of_getElem? (i := 34) (by decide +kernel), List.mem_of_getElem? (i := 663) (by decide +kernel), List.mem_of_getElem? (i := 664) (by decide +kernel)⟩
theorem lw_p17 : lw_okq (⟨"HandshakeBinds", "tapeAt", "(I)LHandshakeBinds$Tape;"⟩, 7) := ⟨⟨by decide +kernel, by decide +kernel⟩, List.mem_of_getElem? (i := 20) (by decide +kernel), List.mem_of_getElem? (i := 681) (by decide +kernel), List.mem_of_getElem? (i := 682) (by decide +kernel)⟩
theorem lw_p18 : lw_okq (⟨"HandshakeBinds$Actor", "run", "(IIII)I"⟩, 5) := ⟨⟨by decide +kernel, by decide +kernel⟩, List.mem_of_getElem? (i := 211) (by decide +kernel), List.mem_of_getElem? (i := 721) (by decide +kernel), List.mem_of_getElem? (i := 722) (by decide +kernel)⟩
theorem lw_p19 : lw_okq (⟨"HandshakeBinds$Tape", "cut", "(J)J"⟩, 3) := ⟨⟨by decide +kernel, by decide +kernel⟩, List.mem_of_getElem? (i := 237) (by decide +kernel), List.mem_of_getElem? (i := 767) (by decide +kernel), List.mem_of_getElem? (i := 768) (by decide +kernel)⟩
theorem lw_p20 : lw_okq (⟨"HandshakeBindsModel", "isOne", "(I)Z"⟩, 46) := ⟨⟨by decide +kernel, by decide +kernel⟩, List.mem_of_getElem? (i := 784) (by decide +kernel), List.mem_of_getElem? (i := 941) (by decide +kernel), List.mem_of_getElem? (i := 942) (by decide +kernel)⟩
theorem lw_p21 : lw_okq (⟨"HandshakeBindsModel", "owes", "(I)I"⟩, 46) := ⟨⟨by decide +kernel, by decide +kernel⟩, List.mem_of_getElem? (i := 784) (by decide +kernel), List.mem_of_getElem? (i := 946) (by decide +kernel), List.mem_of_getElem? (i := 947) (by decide +kernel)⟩
theorem lw_p22 : lw_okq (⟨"HandshakeBindsModel", "owed", "(II)I"⟩, 46) := ⟨⟨by decide +kernel, by decide +kernel⟩, List.mem_of_getElem? (i := 784) (by decide +kernel), List.mem_of_getElem? (i := 950) (by decide +kernel), List.mem_of_getElem? (i := 951) (by decide +kernel)⟩
theorem lw_p23 : lw_okq (⟨"HandshakeBindsModel", "balance", "(I)I"⟩, 46) := ⟨⟨by decide +kernel, by decide +kernel⟩, List.mem_of_getElem? (i := 784) (by decide +kernel), List.mem_of_getElem? (i := 954) (by decide +kernel), List.mem_of_getElem? (i := 955) (by decide +kernel)⟩
theorem lw_p24 : lw_okq (⟨"HandshakeBindsModel", "fails", "(I)I"⟩, 46) := ⟨⟨by decide +kernel, by decide +kernel⟩, List.mem_of_getElem? (i := 784) (by decide +kernel), List.mem_of_getElem? (i := 958) (by decide +kernel), List.mem_of_getElem? (i := 959) (by decide +kernel)⟩
theorem lw_p25 : lw_okq (⟨"HandshakeBindsModel", "gift", "(I)I"⟩, 46) := ⟨⟨by decide +kernel, by decide +kernel⟩, List.mem_of_getElem? (i := 784) (by decide +kernel), List.mem_of_getElem? (i := 962) (by decide +kernel), List.mem_of_getElem? (i := 963) (by decide +kernel)⟩
theorem lw_p26 : lw_okq (⟨"HandshakeBindsModel", "are", "(II)Z"⟩, 46) := ⟨⟨by decide +kernel, by decide +kernel⟩, List.mem_of_getElem? (i := 784) (by decide +kernel), List.mem_of_getElem? (i := 970) (by decide +kernel), List.mem_of_getElem? (i := 971) (by decide +kernel)⟩
theorem lw_p27 : lw_okq (⟨"HandshakeBindsModel", "isClause", "(I)Z"⟩, 46) := ⟨⟨by decide +kernel, by decide +kernel⟩, List.mem_of_getElem? (i := 784) (by decide +kernel), List.mem_of_getElem? (i := 990) (by decide +kernel), List.mem_of_getElem? (i := 991) (by decide +kernel)⟩
theorem lw_p28 : lw_okq (⟨"HandshakeBindsModel", "isAll", "(Ljava/lang/String;)Z"⟩, 46) := ⟨⟨by decide +kernel, by decide +kernel⟩, List.mem_of_getElem? (i := 784) (by decide +kernel), List.mem_of_getElem? (i := 995) (by decide +kernel), List.mem_of_getElem? (i := 996) (by decide +kernel)⟩
theorem lw_p29 : lw_okq (⟨"HandshakeBindsModel", "is", "(I)Z"⟩, 46) := ⟨⟨by decide +kernel, by decide +kernel⟩, List.mem_of_getElem? (i := 784) (by decide +kernel), List.mem_of_getElem? (i := 1001) (by decide +kernel), List.mem_of_getElem? (i := 1002) (by decide +kernel)⟩
theorem lw_p30 : lw_okq (⟨"HandshakeBindsModel", "isNumber", "()Z"⟩, 46) := ⟨⟨by decide +kernel, by decide +kernel⟩, List.mem_of_getElem? (i := 784) (by decide +kernel), List.mem_of_getElem? (i := 1007) (by decide +kernel), List.mem_of_getElem? (i := 1008) (by decide +kernel)⟩
theorem lw_p31 : lw_okq (⟨"HandshakeBindsModel", "isDigit", "()Z"⟩, 46) := ⟨⟨by decide +kernel, by decide +kernel⟩, List.mem_of_getElem? (i := 784) (by decide +kernel), List.mem_of_getElem? (i := 1011) (by decide +kernel), List.mem_of_getElem? (i := 1012) (by decide +kernel)⟩
def lw_privs_2 : List (MethodName × Nat) := [(⟨"HandshakeBinds$Ledger", "pay", "(II)V"⟩, 4), (⟨"HandshakeBinds", "tapeAt", "(I)LHandshakeBinds$Tape;"⟩, 7), (⟨"HandshakeBinds$Actor", "run", "(IIII)I"⟩, 5), (⟨"HandshakeBinds$Tape", "cut", "(J)J"⟩, 3), (⟨"HandshakeBindsModel", "isOne", "(I)Z"⟩, 46), (⟨"HandshakeBindsModel", "owes", "(I)I"⟩, 46), (⟨"HandshakeBindsModel", "owed", "(II)I"⟩, 46), (⟨"HandshakeBindsModel", "balance", "(I)I"⟩, 46), (⟨"HandshakeBindsModel", "fails", "(I)I"⟩, 46), (⟨"HandshakeBindsModel", "gift", "(I)I"⟩, 46), (⟨"HandshakeBindsModel", "are", "(II)Z"⟩, 46), (⟨"HandshakeBindsModel", "isClause", "(I)Z"⟩, 46), (⟨"HandshakeBindsModel", "isAll", "(Ljava/lang/String;)Z"⟩, 46), (⟨"HandshakeBindsModel", "is", "(I)Z"⟩, 46), (⟨"HandshakeBindsModel", "isNumber", "()Z"⟩, 46), (⟨"HandshakeBindsModel", "isDigit", "()Z"⟩, 46)]
theorem lw_r2 : ∀ q ∈ lw_privs_2, lw_okq q := List.forall_mem_cons.mpr ⟨lw_p16, List.forall_mem_cons.mpr ⟨lw_p17, List.forall_mem_cons.mpr ⟨lw_p18, List.forall_mem_cons.mpr ⟨lw_p19, List.forall_mem_cons.mpr ⟨lw_p20, List.forall_mem_cons.mpr ⟨lw_p21, List.forall_mem_cons.mpr ⟨lw_p22, List.forall_mem_cons.mpr ⟨lw_p23, List.forall_mem_cons.mpr ⟨lw_p24, List.forall_mem_cons.mpr ⟨lw_p25, List.forall_mem_cons.mpr ⟨lw_p26, List.forall_mem_cons.mpr ⟨lw_p27, List.forall_mem_cons.mpr ⟨lw_p28, List.forall_mem_cons.mpr ⟨lw_p29, List.forall_mem_cons.mpr ⟨lw_p30, List.forall_mem_cons.mpr ⟨lw_p31, fun _ h => absurd h List.not_mem_nil⟩⟩⟩⟩⟩⟩⟩⟩⟩⟩⟩⟩⟩⟩⟩⟩
theorem lw_p32 : lw_okq (⟨"HandshakeBindsModel", "isE", "()Z"⟩, 46) := ⟨⟨by decide +kernel, by decide +kernel⟩, List.mem_of_getElem? (i := 784) (by decide +kernel), List.mem_of_getElem? (i := 1015) (by decide +kernel), List.mem_of_getElem? (i := 1016) (by decide +kernel)⟩
theorem lw_p33 : lw_okq (⟨"HandshakeBindsModel", "isT", "()Z"⟩, 46) := ⟨⟨by decide +kernel, by decide +kernel⟩, List.mem_of_getElem? (i := 784) (by decide +kernel), List.mem_of_getElem? (i := 1019) (by decide +kernel), List.mem_of_getElem? (i := 1020) (by decide +kernel)⟩
theorem lw_p34 : lw_okq (⟨"HandshakeBindsModel", "isF", "()Z"⟩, 46) := ⟨⟨by decide +kernel, by decide +kernel⟩, List.mem_of_getElem? (i := 784) (by decide +kernel), List.mem_of_getElem? (i := 1023) (by decide +kernel), List.mem_of_getElem? (i := 1024) (by decide +kernel)⟩
theorem lw_p35 : lw_okq (⟨"HandshakeBindsModel", "isOpened", "(I)Z"⟩, 46) := ⟨⟨by decide +kernel, by decide +kernel⟩, List.mem_of_getElem? (i := 784) (by decide +kernel), List.mem_of_getElem? (i := 1027) (by decide +kernel), List.mem_of_getElem? (i := 1028) (by decide +kernel)⟩
theorem lw_p36 : lw_okq (⟨"HandshakeBindsModel", "codes", "(I)Z"⟩, 46) := ⟨⟨by decide +kernel, by decide +kernel⟩, List.mem_of_getElem? (i := 784) (by decide +kernel), List.mem_of_getElem? (i := 1031) (by decide +kernel), List.mem_of_getElem? (i := 1032) (by decide +kernel)⟩
theorem lw_p37 : lw_okq (⟨"HandshakeBindsModel", "isTest", "()Z"⟩, 46) := ⟨⟨by decide +kernel, by decide +kernel⟩, List.mem_of_getElem? (i := 784) (by decide +kernel), List.mem_of_getElem? (i := 1035) (by decide +kernel), List.mem_of_getElem? (i := 1036) (by decide +kernel)⟩
theorem lw_p38 : lw_okq (⟨"HandshakeBindsModel", "readBy", "(IIII)I"⟩, 46) := ⟨⟨by decide +kernel, by decide +kernel⟩, List.mem_of_getElem? (i := 784) (by decide +kernel), List.mem_of_getElem? (i := 1103) (by decide +kernel), List.mem_of_getElem? (i := 1104) (by decide +kernel)⟩
theorem lw_p39 : lw_okq (⟨"HandshakeBindsModel", "force", "(IIII)I"⟩, 46) := ⟨⟨by decide +kernel, by decide +kernel⟩, List.mem_of_getElem? (i := 784) (by decide +kernel), List.mem_of_getElem? (i := 1107) (by decide +kernel), List.mem_of_getElem? (i := 1108) (by decide +kernel)⟩
theorem lw_p40 : lw_okq (⟨"HandshakeBindsModel", "isTrue", "(IIIII)Z"⟩, 46) := ⟨⟨by decide +kernel, by decide +kernel⟩, List.mem_of_getElem? (i := 784) (by decide +kernel), List.mem_of_getElem? (i := 1111) (by decide +kernel), List.mem_of_getElem? (i := 1112) (by decide +kernel)⟩
theorem lw_p41 : lw_okq (⟨"HandshakeBindsModel", "letterOf", "(IIIII)I"⟩, 46) := ⟨⟨by decide +kernel, by decide +kernel⟩, List.mem_of_getElem? (i := 784) (by decide +kernel), List.mem_of_getElem? (i := 1115) (by decide +kernel), List.mem_of_getElem? (i := 1116) (by decide +kernel)⟩
theorem lw_p42 : lw_okq (⟨"HandshakeBindsModel", "bind", "()I"⟩, 46) := ⟨⟨by decide +kernel, by decide +kernel⟩, List.mem_of_getElem? (i := 784) (by decide +kernel), List.mem_of_getElem? (i := 1119) (by decide +kernel), List.mem_of_getElem? (i := 1120) (by decide +kernel)⟩
theorem lw_p43 : lw_okq (⟨"HandshakeBindsModel", "span", "(II)I"⟩, 46) := ⟨⟨by decide +kernel, by decide +kernel⟩, List.mem_of_getElem? (i := 784) (by decide +kernel), List.mem_of_getElem? (i := 1132) (by decide +kernel), List.mem_of_getElem? (i := 1133) (by decide +kernel)⟩
theorem lw_p44 : lw_okq (⟨"HandshakeBindsModel", "rescue", "()I"⟩, 46) := ⟨⟨by decide +kernel, by decide +kernel⟩, List.mem_of_getElem? (i := 784) (by decide +kernel), List.mem_of_getElem? (i := 1144) (by decide +kernel), List.mem_of_getElem? (i := 1145) (by decide +kernel)⟩
theorem lw_p45 : lw_okq (⟨"HandshakeBindsModel", "saves", "(I)Z"⟩, 46) := ⟨⟨by decide +kernel, by decide +kernel⟩, List.mem_of_getElem? (i := 784) (by decide +kernel), List.mem_of_getElem? (i := 1154) (by decide +kernel), List.mem_of_getElem? (i := 1155) (by decide +kernel)⟩
theorem lw_p46 : lw_okq (⟨"HandshakeBindsModel", "keep", "([I)V"⟩, 46) := ⟨⟨by decide +kernel, by decide +kernel⟩, List.mem_of_getElem? (i := 784) (by decide +kernel), List.mem_of_getElem? (i := 1158) (by decide +kernel), List.mem_of_getElem? (i := 1159) (by decide +kernel)⟩
theorem lw_p47 : lw_okq (⟨"HandshakeBindsModel", "again", "([I)V"⟩, 46) := ⟨⟨by decide +kernel, by decide +kernel⟩, List.mem_of_getElem? (i := 784) (by decide +kernel), List.mem_of_getElem? (i := 1163) (by decide +kernel), List.mem_of_getElem? (i := 1164) (by decide +kernel)⟩
def lw_privs_3 : List (MethodName × Nat) := [(⟨"HandshakeBindsModel", "isE", "()Z"⟩, 46), (⟨"HandshakeBindsModel", "isT", "()Z"⟩, 46), (⟨"HandshakeBindsModel", "isF", "()Z"⟩, 46), (⟨"HandshakeBindsModel", "isOpened", "(I)Z"⟩, 46), (⟨"HandshakeBindsModel", "codes", "(I)Z"⟩, 46), (⟨"HandshakeBindsModel", "isTest", "()Z"⟩, 46), (⟨"HandshakeBindsModel", "readBy", "(IIII)I"⟩, 46), (⟨"HandshakeBindsModel", "force", "(IIII)I"⟩, 46), (⟨"HandshakeBindsModel", "isTrue", "(IIIII)Z"⟩, 46), (⟨"HandshakeBindsModel", "letterOf", "(IIIII)I"⟩, 46), (⟨"HandshakeBindsModel", "bind", "()I"⟩, 46), (⟨"HandshakeBindsModel", "span", "(II)I"⟩, 46), (⟨"HandshakeBindsModel", "rescue", "()I"⟩, 46), (⟨"HandshakeBindsModel", "saves", "(I)Z"⟩, 46), (⟨"HandshakeBindsModel", "keep", "([I)V"⟩, 46), (⟨"HandshakeBindsModel", "again", "([I)V"⟩, 46)]
theorem lw_r3 : ∀ q ∈ lw_privs_3, lw_okq q := List.forall_mem_cons.mpr ⟨lw_p32, List.forall_mem_cons.mpr ⟨lw_p33, List.forall_mem_cons.mpr ⟨lw_p34, List.forall_mem_cons.mpr ⟨lw_p35, List.forall_mem_cons.mpr ⟨lw_p36, List.forall_mem_cons.mpr ⟨lw_p37, List.forall_mem_cons.mpr ⟨lw_p38, List.forall_mem_cons.mpr ⟨lw_p39, List.forall_mem_cons.mpr ⟨lw_p40, List.forall_mem_cons.mpr ⟨lw_p41, List.forall_mem_cons.mpr ⟨lw_p42, List.forall_mem_cons.mpr ⟨lw_p43, List.forall_mem_cons.mpr ⟨lw_p44, List.forall_mem_cons.mpr ⟨lw_p45, List.forall_mem_cons.mpr ⟨lw_p46, List.forall_mem_cons.mpr ⟨lw_p47, fun _ h => absurd h List.not_mem_nil⟩⟩⟩⟩⟩⟩⟩⟩⟩⟩⟩⟩⟩⟩⟩⟩
theorem lw_p48 : lw_okq (⟨"HandshakeBindsModel", "payments", "()I"⟩, 46) := ⟨⟨by decide +kernel, by decide +kernel⟩, List.mem_of_getElem? (i := 784) (by decide +kernel), List.mem_of_getElem? (i := 1167) (by decide +kernel), List.mem_of_getElem? (i := 1168) (by decide +kernel)⟩
theorem lw_p49 : lw_okq (⟨"HandshakeBindsModel", "balances", "(I)I"⟩, 46) := ⟨⟨by decide +kernel, by decide +kernel⟩, List.mem_of_getElem? (i := 784) (by decide +kernel), List.mem_of_getElem? (i := 1171) (by decide +kernel), List.mem_of_getElem? (i := 1172) (by decide +kernel)⟩
theorem lw_p50 : lw_okq (⟨"HandshakeBindsModel", "ring", "()I"⟩, 46) := ⟨⟨by decide +kernel, by decide +kernel⟩, List.mem_of_getElem? (i := 784) (by decide +kernel), List.mem_of_getElem? (i := 1176) (by decide +kernel), List.mem_of_getElem? (i := 1177) (by decide +kernel)⟩
theorem lw_p51 : lw_okq (⟨"HandshakeBindsModel", "ringFrom", "(IIII)I"⟩, 46) := ⟨⟨by decide +kernel, by decide +kernel⟩, List.mem_of_getElem? (i := 784) (by decide +kernel), List.mem_of_getElem? (i := 1180) (by decide +kernel), List.mem_of_getElem? (i := 1181) (by decide +kernel)⟩
theorem lw_p52 : lw_okq (⟨"HandshakeBindsModel", "offset", "()I"⟩, 46) := ⟨⟨by decide +kernel, by decide +kernel⟩, List.mem_of_getElem? (i := 784) (by decide +kernel), List.mem_of_getElem? (i := 1184) (by decide +kernel), List.mem_of_getElem? (i := 1185) (by decide +kernel)⟩
theorem lw_p53 : lw_okq (⟨"HandshakeBindsModel", "allDebt", "()I"⟩, 46) := ⟨⟨by decide +kernel, by decide +kernel⟩, List.mem_of_getElem? (i := 784) (by decide +kernel), List.mem_of_getElem? (i := 1189) (by decide +kernel), List.mem_of_getElem? (i := 1190) (by decide +kernel)⟩
theorem lw_p54 : lw_okq (⟨"HandshakeBindsModel", "isSo", "(I)Z"⟩, 46) := ⟨⟨by decide +kernel, by decide +kernel⟩, List.mem_of_getElem? (i := 784) (by decide +kernel), List.mem_of_getElem? (i := 1205) (by decide +kernel), List.mem_of_getElem? (i := 1206) (by decide +kernel)⟩
theorem lw_p55 : lw_okq (⟨"HandshakeBindsModel", "isAllSo", "(I)Z"⟩, 46) := ⟨⟨by decide +kernel, by decide +kernel⟩, List.mem_of_getElem? (i := 784) (by decide +kernel), List.mem_of_getElem? (i := 1213) (by decide +kernel), List.mem_of_getElem? (i := 1214) (by decide +kernel)⟩
theorem lw_p56 : lw_okq (⟨"HandshakeBindsModel", "paysAll", "(I)V"⟩, 46) := ⟨⟨by decide +kernel, by decide +kernel⟩, List.mem_of_getElem? (i := 784) (by decide +kernel), List.mem_of_getElem? (i := 1237) (by decide +kernel), List.mem_of_getElem? (i := 1238) (by decide +kernel)⟩
theorem lw_p57 : lw_okq (⟨"HandshakeBindsModel", "grips", "(III)I"⟩, 46) := ⟨⟨by decide +kernel, by decide +kernel⟩, List.mem_of_getElem? (i := 784) (by decide +kernel), List.mem_of_getElem? (i := 1265) (by decide +kernel), List.mem_of_getElem? (i := 1266) (by decide +kernel)⟩
theorem lw_p58 : lw_okq (⟨"HandshakeBindsModel", "ran", "(I)V"⟩, 46) := ⟨⟨by decide +kernel, by decide +kernel⟩, List.mem_of_getElem? (i := 784) (by decide +kernel), List.mem_of_getElem? (i := 1269) (by decide +kernel), List.mem_of_getElem? (i := 1270) (by decide +kernel)⟩
theorem lw_p59 : lw_okq (⟨"HandshakeBindsModel", "lets", "(III)I"⟩, 46) := ⟨⟨by decide +kernel, by decide +kernel⟩, List.mem_of_getElem? (i := 784) (by decide +kernel), List.mem_of_getElem? (i := 1276) (by decide +kernel), List.mem_of_getElem? (i := 1277) (by decide +kernel)⟩
theorem lw_p60 : lw_okq (⟨"HandshakeBindsModel", "tells", "(III)I"⟩, 46) := ⟨⟨by decide +kernel, by decide +kernel⟩, List.mem_of_getElem? (i := 784) (by decide +kernel), List.mem_of_getElem? (i := 1280) (by decide +kernel), List.mem_of_getElem? (i := 1281) (by decide +kernel)⟩
def lw_privs_4 : List (MethodName × Nat) := [(⟨"HandshakeBindsModel", "payments", "()I"⟩, 46), (⟨"HandshakeBindsModel", "balances", "(I)I"⟩, 46), (⟨"HandshakeBindsModel", "ring", "()I"⟩, 46), (⟨"HandshakeBindsModel", "ringFrom", "(IIII)I"⟩, 46), (⟨"HandshakeBindsModel", "offset", "()I"⟩, 46), (⟨"HandshakeBindsModel", "allDebt", "()I"⟩, 46), (⟨"HandshakeBindsModel", "isSo", "(I)Z"⟩, 46), (⟨"HandshakeBindsModel", "isAllSo", "(I)Z"⟩, 46), (⟨"HandshakeBindsModel", "paysAll", "(I)V"⟩, 46), (⟨"HandshakeBindsModel", "grips", "(III)I"⟩, 46), (⟨"HandshakeBindsModel", "ran", "(I)V"⟩, 46), (⟨"HandshakeBindsModel", "lets", "(III)I"⟩, 46), (⟨"HandshakeBindsModel", "tells", "(III)I"⟩, 46)]
theorem lw_r4 : ∀ q ∈ lw_privs_4, lw_okq q := List.forall_mem_cons.mpr ⟨lw_p48, List.forall_mem_cons.mpr ⟨lw_p49, List.forall_mem_cons.mpr ⟨lw_p50, List.forall_mem_cons.mpr ⟨lw_p51, List.forall_mem_cons.mpr ⟨lw_p52, List.forall_mem_cons.mpr ⟨lw_p53, List.forall_mem_cons.mpr ⟨lw_p54, List.forall_mem_cons.mpr ⟨lw_p55, List.forall_mem_cons.mpr ⟨lw_p56, List.forall_mem_cons.mpr ⟨lw_p57, List.forall_mem_cons.mpr ⟨lw_p58, List.forall_mem_cons.mpr ⟨lw_p59, List.forall_mem_cons.mpr ⟨lw_p60, fun _ h => absurd h List.not_mem_nil⟩⟩⟩⟩⟩⟩⟩⟩⟩⟩⟩⟩⟩
def lw_privs : List (MethodName × Nat) := lw_privs_1 ++ (lw_privs_2 ++ (lw_privs_3 ++ (lw_privs_4)))
def lw_tbl : List Cond := k2_sels lw_privs ++ tables_1
theorem lw_privs_ok : ∀ q ∈ lw_privs, lw_okq q := by
  show ∀ q ∈ lw_privs_1 ++ (lw_privs_2 ++ (lw_privs_3 ++ (lw_privs_4))), lw_okq q
  exact List.forall_mem_append.mpr ⟨lw_r1, List.forall_mem_append.mpr ⟨lw_r2, List.forall_mem_append.mpr ⟨lw_r3, lw_r4⟩⟩⟩

def R_HB : String := "HandshakeBinds"
def F_HB : u_T := fun k => match k with
  | 0 => ("HandshakeBinds", "now", "LHandshakeBinds$Market;", true)
  | 1 => ("HandshakeBinds", "kept", "LHandshakeBinds$Market;", true)
  | 2 => ("HandshakeBinds", "trial", "LHandshakeBinds$Ledger;", true)
  | 3 => ("HandshakeBinds", "scribe", "LHandshakeBinds$Scribe;", true)
  | 4 => ("HandshakeBinds", "actor", "LHandshakeBinds$Actor;", true)
  | 5 => ("HandshakeBinds", "tapes", "[LHandshakeBinds$Tape;", true)
  | _ => ("HandshakeBinds", "hasImage", "Z", false)
def t_HB : Nat → FieldType := fun k => match k with
  | 0 => .object "HandshakeBinds$Market"
  | 1 => .object "HandshakeBinds$Market"
  | 2 => .object "HandshakeBinds$Ledger"
  | 3 => .object "HandshakeBinds$Scribe"
  | 4 => .object "HandshakeBinds$Actor"
  | 5 => .array (.object "HandshakeBinds$Tape")
  | _ => .boolean
theorem n_HB : ∀ a, a < 7 → ∀ b, b < 7 → a ≠ b → (F_HB a).2.1 ≠ (F_HB b).2.1 := by decide +kernel
theorem t_HB_ok : ∀ k, k < 7 → parseFieldDescriptor (F_HB k).2.2.1 = some (t_HB k) := by decide +kernel
def R_Mkt : String := "HandshakeBinds$Market"
def F_Mkt : u_T := fun k => match k with
  | 0 => ("HandshakeBinds$Market", "ledger", "LHandshakeBinds$Ledger;", true)
  | 1 => ("HandshakeBinds$Market", "kinds", "[I", true)
  | 2 => ("HandshakeBinds$Market", "vs", "[I", true)
  | 3 => ("HandshakeBinds$Market", "toldRows", "[I", true)
  | 4 => ("HandshakeBinds$Market", "seen", "LHandshakeBinds$Rows;", true)
  | 5 => ("HandshakeBinds$Market", "planned", "LHandshakeBinds$Rows;", true)
  | 6 => ("HandshakeBinds$Market", "booked", "LHandshakeBinds$Rows;", true)
  | 7 => ("HandshakeBinds$Market", "sums", "[I", true)
  | 8 => ("HandshakeBinds$Market", "facts", "LHandshakeBinds$Facts;", true)
  | 9 => ("HandshakeBinds$Market", "day", "I", false)
  | _ => ("HandshakeBinds$Market", "holding", "I", false)
def t_Mkt : Nat → FieldType := fun k => match k with
  | 0 => .object "HandshakeBinds$Ledger"
  | 1 => .array .int
  | 2 => .array .int
  | 3 => .array .int
  | 4 => .object "HandshakeBinds$Rows"
  | 5 => .object "HandshakeBinds$Rows"
  | 6 => .object "HandshakeBinds$Rows"
  | 7 => .array .int
  | 8 => .object "HandshakeBinds$Facts"
  | 9 => .int
  | _ => .int
theorem n_Mkt : ∀ a, a < 11 → ∀ b, b < 11 → a ≠ b → (F_Mkt a).2.1 ≠ (F_Mkt b).2.1 := by decide +kernel
theorem t_Mkt_ok : ∀ k, k < 11 → parseFieldDescriptor (F_Mkt k).2.2.1 = some (t_Mkt k) := by decide +kernel
def R_Led : String := "HandshakeBinds$Ledger"
def F_Led : u_T := fun k => match k with
  | 0 => ("HandshakeBinds$Ledger", "purses", "[I", true)
  | 1 => ("HandshakeBinds$Ledger", "debts", "[I", true)
  | 2 => ("HandshakeBinds$Ledger", "mostSets", "[I", true)
  | _ => ("HandshakeBinds$Ledger", "size", "I", false)
def t_Led : Nat → FieldType := fun k => match k with
  | 0 => .array .int
  | 1 => .array .int
  | 2 => .array .int
  | _ => .int
theorem n_Led : ∀ a, a < 4 → ∀ b, b < 4 → a ≠ b → (F_Led a).2.1 ≠ (F_Led b).2.1 := by decide +kernel
theorem t_Led_ok : ∀ k, k < 4 → parseFieldDescriptor (F_Led k).2.2.1 = some (t_Led k) := by decide +kernel
def R_Rws : String := "HandshakeBinds$Rows"
def F_Rws : u_T := fun k => match k with
  | 0 => ("HandshakeBinds$Rows", "cells", "[I", true)
  | _ => ("HandshakeBinds$Rows", "size", "I", false)
def t_Rws : Nat → FieldType := fun k => match k with
  | 0 => .array .int
  | _ => .int
theorem n_Rws : ∀ a, a < 2 → ∀ b, b < 2 → a ≠ b → (F_Rws a).2.1 ≠ (F_Rws b).2.1 := by decide +kernel
theorem t_Rws_ok : ∀ k, k < 2 → parseFieldDescriptor (F_Rws k).2.2.1 = some (t_Rws k) := by decide +kernel
def R_Fac : String := "HandshakeBinds$Facts"
def F_Fac : u_T := fun k => match k with
  | 0 => ("HandshakeBinds$Facts", "one", "I", false)
  | 1 => ("HandshakeBinds$Facts", "other", "I", false)
  | 2 => ("HandshakeBinds$Facts", "kind", "I", false)
  | 3 => ("HandshakeBinds$Facts", "v", "I", false)
  | 4 => ("HandshakeBinds$Facts", "squeeze", "I", false)
  | _ => ("HandshakeBinds$Facts", "day", "I", false)
def t_Fac : Nat → FieldType := fun k => match k with
  | 0 => .int
  | 1 => .int
  | 2 => .int
  | 3 => .int
  | 4 => .int
  | _ => .int
theorem n_Fac : ∀ a, a < 6 → ∀ b, b < 6 → a ≠ b → (F_Fac a).2.1 ≠ (F_Fac b).2.1 := by decide +kernel
theorem t_Fac_ok : ∀ k, k < 6 → parseFieldDescriptor (F_Fac k).2.2.1 = some (t_Fac k) := by decide +kernel
def R_Exc : String := "HandshakeBinds$Exchange"
def F_Exc : u_T := fun k => match k with
  | 0 => ("HandshakeBinds$Exchange", "steps", "[I", true)
  | 1 => ("HandshakeBinds$Exchange", "stops", "[I", true)
  | 2 => ("HandshakeBinds$Exchange", "weights", "[I", true)
  | 3 => ("HandshakeBinds$Exchange", "size", "I", false)
  | 4 => ("HandshakeBinds$Exchange", "clauses", "I", false)
  | _ => ("HandshakeBinds$Exchange", "bind", "I", false)
def t_Exc : Nat → FieldType := fun k => match k with
  | 0 => .array .int
  | 1 => .array .int
  | 2 => .array .int
  | 3 => .int
  | 4 => .int
  | _ => .int
theorem n_Exc : ∀ a, a < 6 → ∀ b, b < 6 → a ≠ b → (F_Exc a).2.1 ≠ (F_Exc b).2.1 := by decide +kernel
theorem t_Exc_ok : ∀ k, k < 6 → parseFieldDescriptor (F_Exc k).2.2.1 = some (t_Exc k) := by decide +kernel
def R_Scr : String := "HandshakeBinds$Scribe"
def F_Scr : u_T := fun k => match k with
  | 0 => ("HandshakeBinds$Scribe", "text", "[I", true)
  | 1 => ("HandshakeBinds$Scribe", "exchanges", "[LHandshakeBinds$Exchange;", true)
  | 2 => ("HandshakeBinds$Scribe", "empty", "LHandshakeBinds$Exchange;", true)
  | 3 => ("HandshakeBinds$Scribe", "size", "I", false)
  | 4 => ("HandshakeBinds$Scribe", "known", "I", false)
  | 5 => ("HandshakeBinds$Scribe", "place", "I", false)
  | _ => ("HandshakeBinds$Scribe", "made", "LHandshakeBinds$Exchange;", false)
def t_Scr : Nat → FieldType := fun k => match k with
  | 0 => .array .int
  | 1 => .array (.object "HandshakeBinds$Exchange")
  | 2 => .object "HandshakeBinds$Exchange"
  | 3 => .int
  | 4 => .int
  | 5 => .int
  | _ => .object "HandshakeBinds$Exchange"
theorem n_Scr : ∀ a, a < 7 → ∀ b, b < 7 → a ≠ b → (F_Scr a).2.1 ≠ (F_Scr b).2.1 := by decide +kernel
theorem t_Scr_ok : ∀ k, k < 7 → parseFieldDescriptor (F_Scr k).2.2.1 = some (t_Scr k) := by decide +kernel
def R_Act : String := "HandshakeBinds$Actor"
def F_Act : u_T := fun k => match k with
  | 0 => ("HandshakeBinds$Actor", "bodies", "[I", true)
  | 1 => ("HandshakeBinds$Actor", "ran", "I", false)
  | 2 => ("HandshakeBinds$Actor", "number", "I", false)
  | 3 => ("HandshakeBinds$Actor", "kind", "I", false)
  | _ => ("HandshakeBinds$Actor", "v", "I", false)
def t_Act : Nat → FieldType := fun k => match k with
  | 0 => .array .int
  | 1 => .int
  | 2 => .int
  | 3 => .int
  | _ => .int
theorem n_Act : ∀ a, a < 5 → ∀ b, b < 5 → a ≠ b → (F_Act a).2.1 ≠ (F_Act b).2.1 := by decide +kernel
theorem t_Act_ok : ∀ k, k < 5 → parseFieldDescriptor (F_Act k).2.2.1 = some (t_Act k) := by decide +kernel
def R_Tap : String := "HandshakeBinds$Tape"
def F_Tap : u_T := fun k => match k with
  | 0 => ("HandshakeBinds$Tape", "items", "[J", true)
  | 1 => ("HandshakeBinds$Tape", "sort", "I", false)
  | _ => ("HandshakeBinds$Tape", "size", "I", false)
def t_Tap : Nat → FieldType := fun k => match k with
  | 0 => .array .long
  | 1 => .int
  | _ => .int
theorem n_Tap : ∀ a, a < 3 → ∀ b, b < 3 → a ≠ b → (F_Tap a).2.1 ≠ (F_Tap b).2.1 := by decide +kernel
theorem t_Tap_ok : ∀ k, k < 3 → parseFieldDescriptor (F_Tap k).2.2.1 = some (t_Tap k) := by decide +kernel
def R_Mod : String := "HandshakeBindsModel"
def F_Mod : u_T := fun k => match k with
  | 0 => ("HandshakeBindsModel", "traders", "I", false)
  | 1 => ("HandshakeBindsModel", "kind", "[I", true)
  | 2 => ("HandshakeBindsModel", "v", "[I", true)
  | 3 => ("HandshakeBindsModel", "purse", "[I", true)
  | 4 => ("HandshakeBindsModel", "rows", "[I", true)
  | 5 => ("HandshakeBindsModel", "debt", "[I", true)
  | 6 => ("HandshakeBindsModel", "day", "I", false)
  | 7 => ("HandshakeBindsModel", "texted", "I", false)
  | 8 => ("HandshakeBindsModel", "text", "[I", true)
  | 9 => ("HandshakeBindsModel", "at", "I", false)
  | 10 => ("HandshakeBindsModel", "value", "I", false)
  | 11 => ("HandshakeBindsModel", "digits", "I", false)
  | 12 => ("HandshakeBindsModel", "open", "I", false)
  | 13 => ("HandshakeBindsModel", "exchanges", "I", false)
  | 14 => ("HandshakeBindsModel", "holds", "I", false)
  | 15 => ("HandshakeBindsModel", "clauses", "[I", true)
  | 16 => ("HandshakeBindsModel", "word", "[I", true)
  | 17 => ("HandshakeBindsModel", "number", "[I", true)
  | 18 => ("HandshakeBindsModel", "begins", "[I", true)
  | 19 => ("HandshakeBindsModel", "length", "[I", true)
  | 20 => ("HandshakeBindsModel", "code", "[I", true)
  | 21 => ("HandshakeBindsModel", "coded", "I", false)
  | 22 => ("HandshakeBindsModel", "stack", "[Z", true)
  | 23 => ("HandshakeBindsModel", "seen", "I", false)
  | 24 => ("HandshakeBindsModel", "seenBy", "[I", true)
  | 25 => ("HandshakeBindsModel", "seenOf", "[I", true)
  | 26 => ("HandshakeBindsModel", "seenSqueeze", "[I", true)
  | 27 => ("HandshakeBindsModel", "seenIn", "[I", true)
  | 28 => ("HandshakeBindsModel", "seenSum", "[I", true)
  | 29 => ("HandshakeBindsModel", "inPlan", "I", false)
  | 30 => ("HandshakeBindsModel", "goes", "[I", true)
  | 31 => ("HandshakeBindsModel", "whose", "[I", true)
  | 32 => ("HandshakeBindsModel", "inBook", "I", false)
  | 33 => ("HandshakeBindsModel", "bookBy", "[I", true)
  | 34 => ("HandshakeBindsModel", "bookOf", "[I", true)
  | 35 => ("HandshakeBindsModel", "bookDebt", "[I", true)
  | 36 => ("HandshakeBindsModel", "traced", "I", false)
  | 37 => ("HandshakeBindsModel", "traces", "[I", true)
  | 38 => ("HandshakeBindsModel", "imaged", "Z", false)
  | 39 => ("HandshakeBindsModel", "image", "[I", true)
  | 40 => ("HandshakeBindsModel", "ahead", "[I", true)
  | 41 => ("HandshakeBindsModel", "parts", "[I", true)
  | 42 => ("HandshakeBindsModel", "sums", "[Z", true)
  | 43 => ("HandshakeBindsModel", "tapeSort", "[I", true)
  | 44 => ("HandshakeBindsModel", "tapeSize", "[I", true)
  | _ => ("HandshakeBindsModel", "items", "[J", true)
def t_Mod : Nat → FieldType := fun k => match k with
  | 0 => .int
  | 1 => .array .int
  | 2 => .array .int
  | 3 => .array .int
  | 4 => .array .int
  | 5 => .array .int
  | 6 => .int
  | 7 => .int
  | 8 => .array .int
  | 9 => .int
  | 10 => .int
  | 11 => .int
  | 12 => .int
  | 13 => .int
  | 14 => .int
  | 15 => .array .int
  | 16 => .array .int
  | 17 => .array .int
  | 18 => .array .int
  | 19 => .array .int
  | 20 => .array .int
  | 21 => .int
  | 22 => .array .boolean
  | 23 => .int
  | 24 => .array .int
  | 25 => .array .int
  | 26 => .array .int
  | 27 => .array .int
  | 28 => .array .int
  | 29 => .int
  | 30 => .array .int
  | 31 => .array .int
  | 32 => .int
  | 33 => .array .int
  | 34 => .array .int
  | 35 => .array .int
  | 36 => .int
  | 37 => .array .int
  | 38 => .boolean
  | 39 => .array .int
  | 40 => .array .int
  | 41 => .array .int
  | 42 => .array .boolean
  | 43 => .array .int
  | 44 => .array .int
  | _ => .array .long
theorem n_Mod : ∀ a, a < 46 → ∀ b, b < 46 → a ≠ b → (F_Mod a).2.1 ≠ (F_Mod b).2.1 := by decide +kernel
theorem t_Mod_ok : ∀ k, k < 46 → parseFieldDescriptor (F_Mod k).2.2.1 = some (t_Mod k) := by decide +kernel
abbrev CLS : List vw_C := [(R_HB, F_HB, 7), (R_Mkt, F_Mkt, 11), (R_Led, F_Led, 4), (R_Rws, F_Rws, 2), (R_Fac, F_Fac, 6), (R_Exc, F_Exc, 6), (R_Scr, F_Scr, 7), (R_Act, F_Act, 5), (R_Tap, F_Tap, 3), (R_Mod, F_Mod, 46)]
def TB : List Cond := lw_tbl.filter goodWord
def isNest : Cond → Bool
  | .fieldLinkNest _ _ _ _ _ _ => true
  | .methodLinkNest _ _ _ _ => true
  | _ => false
def NW : List Cond := lw_tbl.filter isNest
theorem inTB {w : Cond} (i : Nat) (h : lw_tbl[i]? = some w) (hg : goodWord w = true) : w ∈ TB := List.mem_filter.mpr ⟨List.mem_of_getElem? h, hg⟩
theorem inNW {w : Cond} (i : Nat) (h : lw_tbl[i]? = some w) (hg : isNest w = true) : w ∈ NW := List.mem_filter.mpr ⟨List.mem_of_getElem? h, hg⟩
theorem TB_good : ∀ w ∈ TB, goodWord w = true := fun _ h => (List.mem_filter.mp h).2
theorem TB_in : ∀ w ∈ TB, w ∈ lw_tbl := fun _ h => (List.mem_filter.mp h).1
theorem i_HB : ∀ w ∈ u_ws R_HB F_HB 7, w ∈ TB := by decide +kernel
theorem i_Mkt : ∀ w ∈ u_ws R_Mkt F_Mkt 11, w ∈ TB := by decide +kernel
theorem i_Led : ∀ w ∈ u_ws R_Led F_Led 4, w ∈ TB := by decide +kernel
theorem i_Rws : ∀ w ∈ u_ws R_Rws F_Rws 2, w ∈ TB := by decide +kernel
theorem i_Fac : ∀ w ∈ u_ws R_Fac F_Fac 6, w ∈ TB := by decide +kernel
theorem i_Exc : ∀ w ∈ u_ws R_Exc F_Exc 6, w ∈ TB := by decide +kernel
theorem i_Scr : ∀ w ∈ u_ws R_Scr F_Scr 7, w ∈ TB := by decide +kernel
theorem i_Act : ∀ w ∈ u_ws R_Act F_Act 5, w ∈ TB := by decide +kernel
theorem i_Tap : ∀ w ∈ u_ws R_Tap F_Tap 3, w ∈ TB := by decide +kernel
theorem i_Mod : ∀ w ∈ u_ws R_Mod F_Mod 46, w ∈ TB := by decide +kernel
