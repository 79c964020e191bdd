section
/-- a private method of a class that the tables say can be made, by its rows of tables_1 -/
def lw_okq (q : MethodName × Nat) : Prop := (q.1.cls ≠ "java/lang/invoke/MethodHandle" ∧ q.1.cls ≠ "java/lang/invoke/VarHandle") ∧ Cond.instantiable q.1.cls q.2 ∈ tables_1 ∧ Cond.privateMethod q.1 ∈ tables_1 ∧ Cond.instanceMethod q.1 ∈ tables_1
theorem lw_p0 : lw_okq (⟨"HandshakeBinds", "isTrader", "(I)Z"⟩, 7) := ⟨⟨by decide +kernel, by decide +kernel⟩, List.mem_of_getElem? (i := 20) (by decide +kernel), List.mem_of_getElem? (i := 299) (by decide +kernel), List.mem_of_getElem? (i := 300) (by decide +kernel)⟩
theorem lw_p1 : lw_okq (⟨"HandshakeBinds$Ledger", "cannotPay", "(III)Z"⟩, 4) := ⟨⟨by decide +kernel, by decide +kernel⟩, List.mem_of_getElem? (i := 34) (by decide +kernel), List.mem_of_getElem? (i := 334) (by decide +kernel), List.mem_of_getElem? (i := 335) (by decide +kernel)⟩
theorem lw_p2 : lw_okq (⟨"HandshakeBinds", "refusedPair", "(II)I"⟩, 7) := ⟨⟨by decide +kernel, by decide +kernel⟩, List.mem_of_getElem? (i := 20) (by decide +kernel), List.mem_of_getElem? (i := 348) (by decide +kernel), List.mem_of_getElem? (i := 349) (by decide +kernel)⟩
theorem lw_p3 : lw_okq (⟨"HandshakeBinds", "held", "()LHandshakeBinds$Exchange;"⟩, 7) := ⟨⟨by decide +kernel, by decide +kernel⟩, List.mem_of_getElem? (i := 20) (by decide +kernel), List.mem_of_getElem? (i := 366) (by decide +kernel), List.mem_of_getElem? (i := 367) (by decide +kernel)⟩
theorem lw_p4 : lw_okq (⟨"HandshakeBinds$Market", "readWith", "(LHandshakeBinds$Exchange;IIIII)I"⟩, 11) := ⟨⟨by decide +kernel, by decide +kernel⟩, List.mem_of_getElem? (i := 28) (by decide +kernel), List.mem_of_getElem? (i := 379) (by decide +kernel), List.mem_of_getElem? (i := 380) (by decide +kernel)⟩
theorem lw_p5 : lw_okq (⟨"HandshakeBinds$Exchange", "holds", "(IILHandshakeBinds$Facts;)Z"⟩, 6) := ⟨⟨by decide +kernel, by decide +kernel⟩, List.mem_of_getElem? (i := 159) (by decide +kernel), List.mem_of_getElem? (i := 388) (by decide +kernel), List.mem_of_getElem? (i := 389) (by decide +kernel)⟩
theorem lw_p6 : lw_okq (⟨"HandshakeBinds$Facts", "valueOf", "(I)I"⟩, 6) := ⟨⟨by decide +kernel, by decide +kernel⟩, List.mem_of_getElem? (i := 75) (by decide +kernel), List.mem_of_getElem? (i := 396) (by decide +kernel), List.mem_of_getElem? (i := 397) (by decide +kernel)⟩
theorem lw_p7 : lw_okq (⟨"HandshakeBinds$Market", "heard", "(I)I"⟩, 11) := ⟨⟨by decide +kernel, by decide +kernel⟩, List.mem_of_getElem? (i := 28) (by decide +kernel), List.mem_of_getElem? (i := 400) (by decide +kernel), List.mem_of_getElem? (i := 401) (by decide +kernel)⟩
theorem lw_p8 : lw_okq (⟨"HandshakeBinds$Scribe", "readClause", "()Z"⟩, 7) := ⟨⟨by decide +kernel, by decide +kernel⟩, List.mem_of_getElem? (i := 152) (by decide +kernel), List.mem_of_getElem? (i := 463) (by decide +kernel), List.mem_of_getElem? (i := 464) (by decide +kernel)⟩
theorem lw_p9 : lw_okq (⟨"HandshakeBinds$Scribe", "next", "()I"⟩, 7) := ⟨⟨by decide +kernel, by decide +kernel⟩, List.mem_of_getElem? (i := 152) (by decide +kernel), List.mem_of_getElem? (i := 467) (by decide +kernel), List.mem_of_getElem? (i := 468) (by decide +kernel)⟩
theorem lw_p10 : lw_okq (⟨"HandshakeBinds$Scribe", "take", "(I)Z"⟩, 7) := ⟨⟨by decide +kernel, by decide +kernel⟩, List.mem_of_getElem? (i := 152) (by decide +kernel), List.mem_of_getElem? (i := 522) (by decide +kernel), List.mem_of_getElem? (i := 523) (by decide +kernel)⟩
theorem lw_p11 : lw_okq (⟨"HandshakeBinds$Scribe", "readNumber", "()I"⟩, 7) := ⟨⟨by decide +kernel, by decide +kernel⟩, List.mem_of_getElem? (i := 152) (by decide +kernel), List.mem_of_getElem? (i := 526) (by decide +kernel), List.mem_of_getElem? (i := 527) (by decide +kernel)⟩
theorem lw_p12 : lw_okq (⟨"HandshakeBinds$Scribe", "readCondition", "(I)Z"⟩, 7) := ⟨⟨by decide +kernel, by decide +kernel⟩, List.mem_of_getElem? (i := 152) (by decide +kernel), List.mem_of_getElem? (i := 531) (by decide +kernel), List.mem_of_getElem? (i := 532) (by decide +kernel)⟩
theorem lw_p13 : lw_okq (⟨"HandshakeBinds$Scribe", "readFactor", "(I)Z"⟩, 7) := ⟨⟨by decide +kernel, by decide +kernel⟩, List.mem_of_getElem? (i := 152) (by decide +kernel), List.mem_of_getElem? (i := 535) (by decide +kernel), List.mem_of_getElem? (i := 536) (by decide +kernel)⟩
theorem lw_p14 : lw_okq (⟨"HandshakeBinds$Scribe", "readTest", "()Z"⟩, 7) := ⟨⟨by decide +kernel, by decide +kernel⟩, List.mem_of_getElem? (i := 152) (by decide +kernel), List.mem_of_getElem? (i := 544) (by decide +kernel), List.mem_of_getElem? (i := 545) (by decide +kernel)⟩
theorem lw_p15 : lw_okq (⟨"HandshakeBinds$Ledger", "ringFrom", "(IIII)I"⟩, 4) := ⟨⟨by decide +kernel, by decide +kernel⟩, List.mem_of_getElem? (i := 34) (by decide +kernel), List.mem_of_getElem? (i := 574) (by decide +kernel), List.mem_of_getElem? (i := 575) (by decide +kernel)⟩
def lw_privs_1 : List (MethodName × Nat) := [(⟨"HandshakeBinds", "isTrader", "(I)Z"⟩, 7), (⟨"HandshakeBinds$Ledger", "cannotPay", "(III)Z"⟩, 4), (⟨"HandshakeBinds", "refusedPair", "(II)I"⟩, 7), (⟨"HandshakeBinds", "held", "()LHandshakeBinds$Exchange;"⟩, 7), (⟨"HandshakeBinds$Market", "readWith", "(LHandshakeBinds$Exchange;IIIII)I"⟩, 11), (⟨"HandshakeBinds$Exchange", "holds", "(IILHandshakeBinds$Facts;)Z"⟩, 6), (⟨"HandshakeBinds$Facts", "valueOf", "(I)I"⟩, 6), (⟨"HandshakeBinds$Market", "heard", "(I)I"⟩, 11), (⟨"HandshakeBinds$Scribe", "readClause", "()Z"⟩, 7), (⟨"HandshakeBinds$Scribe", "next", "()I"⟩, 7), (⟨"HandshakeBinds$Scribe", "take", "(I)Z"⟩, 7), (⟨"HandshakeBinds$Scribe", "readNumber", "()I"⟩, 7), (⟨"HandshakeBinds$Scribe", "readCondition", "(I)Z"⟩, 7), (⟨"HandshakeBinds$Scribe", "readFactor", "(I)Z"⟩, 7), (⟨"HandshakeBinds$Scribe", "readTest", "()Z"⟩, 7), (⟨"HandshakeBinds$Ledger", "ringFrom", "(IIII)I"⟩, 4)]
theorem lw_r1 : ∀ q ∈ lw_privs_1, lw_okq q := List.forall_mem_cons.mpr ⟨lw_p0, List.forall_mem_cons.mpr ⟨lw_p1, List.forall_mem_cons.mpr ⟨lw_p2, List.forall_mem_cons.mpr ⟨lw_p3, List.forall_mem_cons.mpr ⟨lw_p4, List.forall_mem_cons.mpr ⟨lw_p5, List.forall_mem_cons.mpr ⟨lw_p6, List.forall_mem_cons.mpr ⟨lw_p7, List.forall_mem_cons.mpr ⟨lw_p8, List.forall_mem_cons.mpr ⟨lw_p9, List.forall_mem_cons.mpr ⟨lw_p10, List.forall_mem_cons.mpr ⟨lw_p11, List.forall_mem_cons.mpr ⟨lw_p12, List.forall_mem_cons.mpr ⟨lw_p13, List.forall_mem_cons.mpr ⟨lw_p14, List.forall_mem_cons.mpr ⟨lw_p15, fun _ h => absurd h List.not_mem_nil⟩⟩⟩⟩⟩⟩⟩⟩⟩⟩⟩⟩⟩⟩⟩⟩
theorem lw_p16 : lw_okq (⟨"HandshakeBinds$Ledger", "pay", "(II)V"⟩, 4) := ⟨⟨by decide +kernel, by decide +kernel⟩, List.mem_of_getElem? (i := 34) (by decide +kernel), List.mem_of_getElem? (i := 663) (by decide +kernel), List.mem_of_getElem? (i := 664) (by decide +kernel)⟩
theorem lw_p17 : lw_okq (⟨"HandshakeBinds", "tapeAt", "(I)LHandshakeBinds$Tape;"⟩, 7) := ⟨⟨by decide +kernel, by decide +kernel⟩, List.mem_of_getElem? (i := 20) (by decide +kernel), List.mem_of_getElem? (i := 681) (by decide +kernel), List.mem_of_getElem? (i := 682) (by decide +kernel)⟩
theorem lw_p18 : lw_okq (⟨"HandshakeBinds$Actor", "run", "(IIII)I"⟩, 5) := ⟨⟨by decide +kernel, by decide +kernel⟩, List.mem_of_getElem? (i := 211) (by decide +kernel), List.mem_of_getElem? (i := 721) (by decide +kernel), List.mem_of_getElem? (i := 722) (by decide +kernel)⟩
theorem lw_p19 : lw_okq (⟨"HandshakeBinds$Tape", "cut", "(J)J"⟩, 3) := ⟨⟨by decide +kernel, by decide +kernel⟩, List.mem_of_getElem? (i := 237) (by decide +kernel), List.mem_of_getElem? (i := 767) (by decide +kernel), List.mem_of_getElem? (i := 768) (by decide +kernel)⟩
theorem lw_p20 : lw_okq (⟨"HandshakeBindsModel", "isOne", "(I)Z"⟩, 46) := ⟨⟨by decide +kernel, by decide +kernel⟩, List.mem_of_getElem? (i := 784) (by decide +kernel), List.mem_of_getElem? (i := 941) (by decide +kernel), List.mem_of_getElem? (i := 942) (by decide +kernel)⟩
theorem lw_p21 : lw_okq (⟨"HandshakeBindsModel", "owes", "(I)I"⟩, 46) := ⟨⟨by decide +kernel, by decide +kernel⟩, List.mem_of_getElem? (i := 784) (by decide +kernel), List.mem_of_getElem? (i := 946) (by decide +kernel), List.mem_of_getElem? (i := 947) (by decide +kernel)⟩
theorem lw_p22 : lw_okq (⟨"HandshakeBindsModel", "owed", "(II)I"⟩, 46) := ⟨⟨by decide +kernel, by decide +kernel⟩, List.mem_of_getElem? (i := 784) (by decide +kernel), List.mem_of_getElem? (i := 950) (by decide +kernel), List.mem_of_getElem? (i := 951) (by decide +kernel)⟩
theorem lw_p23 : lw_okq (⟨"HandshakeBindsModel", "balance", "(I)I"⟩, 46) := ⟨⟨by decide +kernel, by decide +kernel⟩, List.mem_of_getElem? (i := 784) (by decide +kernel), List.mem_of_getElem? (i := 954) (by decide +kernel), List.mem_of_getElem? (i := 955) (by decide +kernel)⟩
theorem lw_p24 : lw_okq (⟨"HandshakeBindsModel", "fails", "(I)I"⟩, 46) := ⟨⟨by decide +kernel, by decide +kernel⟩, List.mem_of_getElem? (i := 784) (by decide +kernel), List.mem_of_getElem? (i := 958) (by decide +kernel), List.mem_of_getElem? (i := 959) (by decide +kernel)⟩
theorem lw_p25 : lw_okq (⟨"HandshakeBindsModel", "gift", "(I)I"⟩, 46) := ⟨⟨by decide +kernel, by decide +kernel⟩, List.mem_of_getElem? (i := 784) (by decide +kernel), List.mem_of_getElem? (i := 962) (by decide +kernel), List.mem_of_getElem? (i := 963) (by decide +kernel)⟩
theorem lw_p26 : lw_okq (⟨"HandshakeBindsModel", "are", "(II)Z"⟩, 46) := ⟨⟨by decide +kernel, by decide +kernel⟩, List.mem_of_getElem? (i := 784) (by decide +kernel), List.mem_of_getElem? (i := 970) (by decide +kernel), List.mem_of_getElem? (i := 971) (by decide +kernel)⟩
theorem lw_p27 : lw_okq (⟨"HandshakeBindsModel", "isClause", "(I)Z"⟩, 46) := ⟨⟨by decide +kernel, by decide +kernel⟩, List.mem_of_getElem? (i := 784) (by decide +kernel), List.mem_of_getElem? (i := 990) (by decide +kernel), List.mem_of_getElem? (i := 991) (by decide +kernel)⟩
theorem lw_p28 : lw_okq (⟨"HandshakeBindsModel", "isAll", "(Ljava/lang/String;)Z"⟩, 46) := ⟨⟨by decide +kernel, by decide +kernel⟩, List.mem_of_getElem? (i := 784) (by decide +kernel), List.mem_of_getElem? (i := 995) (by decide +kernel), List.mem_of_getElem? (i := 996) (by decide +kernel)⟩
theorem lw_p29 : lw_okq (⟨"HandshakeBindsModel", "is", "(I)Z"⟩, 46) := ⟨⟨by decide +kernel, by decide +kernel⟩, List.mem_of_getElem? (i := 784) (by decide +kernel), List.mem_of_getElem? (i := 1001) (by decide +kernel), List.mem_of_getElem? (i := 1002) (by decide +kernel)⟩
theorem lw_p30 : lw_okq (⟨"HandshakeBindsModel", "isNumber", "()Z"⟩, 46) := ⟨⟨by decide +kernel, by decide +kernel⟩, List.mem_of_getElem? (i := 784) (by decide +kernel), List.mem_of_getElem? (i := 1007) (by decide +kernel), List.mem_of_getElem? (i := 1008) (by decide +kernel)⟩
theorem lw_p31 : lw_okq (⟨"HandshakeBindsModel", "isDigit", "()Z"⟩, 46) := ⟨⟨by decide +kernel, by decide +kernel⟩, List.mem_of_getElem? (i := 784) (by decide +kernel), List.mem_of_getElem? (i := 1011) (by decide +kernel), List.mem_of_getElem? (i := 1012) (by decide +kernel)⟩
def lw_privs_2 : List (MethodName × Nat) := [(⟨"HandshakeBinds$Ledger", "pay", "(II)V"⟩, 4), (⟨"HandshakeBinds", "tapeAt", "(I)LHandshakeBinds$Tape;"⟩, 7), (⟨"HandshakeBinds$Actor", "run", "(IIII)I"⟩, 5), (⟨"HandshakeBinds$Tape", "cut", "(J)J"⟩, 3), (⟨"HandshakeBindsModel", "isOne", "(I)Z"⟩, 46), (⟨"HandshakeBindsModel", "owes", "(I)I"⟩, 46), (⟨"HandshakeBindsModel", "owed", "(II)I"⟩, 46), (⟨"HandshakeBindsModel", "balance", "(I)I"⟩, 46), (⟨"HandshakeBindsModel", "fails", "(I)I"⟩, 46), (⟨"HandshakeBindsModel", "gift", "(I)I"⟩, 46), (⟨"HandshakeBindsModel", "are", "(II)Z"⟩, 46), (⟨"HandshakeBindsModel", "isClause", "(I)Z"⟩, 46), (⟨"HandshakeBindsModel", "isAll", "(Ljava/lang/String;)Z"⟩, 46), (⟨"HandshakeBindsModel", "is", "(I)Z"⟩, 46), (⟨"HandshakeBindsModel", "isNumber", "()Z"⟩, 46), (⟨"HandshakeBindsModel", "isDigit", "()Z"⟩, 46)]
theorem lw_r2 : ∀ q ∈ lw_privs_2, lw_okq q := List.forall_mem_cons.mpr ⟨lw_p16, List.forall_mem_cons.mpr ⟨lw_p17, List.forall_mem_cons.mpr ⟨lw_p18, List.forall_mem_cons.mpr ⟨lw_p19, List.forall_mem_cons.mpr ⟨lw_p20, List.forall_mem_cons.mpr ⟨lw_p21, List.forall_mem_cons.mpr ⟨lw_p22, List.forall_mem_cons.mpr ⟨lw_p23, List.forall_mem_cons.mpr ⟨lw_p24, List.forall_mem_cons.mpr ⟨lw_p25, List.forall_mem_cons.mpr ⟨lw_p26, List.forall_mem_cons.mpr ⟨lw_p27, List.forall_mem_cons.mpr ⟨lw_p28, List.forall_mem_cons.mpr ⟨lw_p29, List.forall_mem_cons.mpr ⟨lw_p30, List.forall_mem_cons.mpr ⟨lw_p31, fun _ h => absurd h List.not_mem_nil⟩⟩⟩⟩⟩⟩⟩⟩⟩⟩⟩⟩⟩⟩⟩⟩
theorem lw_p32 : lw_okq (⟨"HandshakeBindsModel", "isE", "()Z"⟩, 46) := ⟨⟨by decide +kernel, by decide +kernel⟩, List.mem_of_getElem? (i := 784) (by decide +kernel), List.mem_of_getElem? (i := 1015) (by decide +kernel), List.mem_of_getElem? (i := 1016) (by decide +kernel)⟩
theorem lw_p33 : lw_okq (⟨"HandshakeBindsModel", "isT", "()Z"⟩, 46) := ⟨⟨by decide +kernel, by decide +kernel⟩, List.mem_of_getElem? (i := 784) (by decide +kernel), List.mem_of_getElem? (i := 1019) (by decide +kernel), List.mem_of_getElem? (i := 1020) (by decide +kernel)⟩
theorem lw_p34 : lw_okq (⟨"HandshakeBindsModel", "isF", "()Z"⟩, 46) := ⟨⟨by decide +kernel, by decide +kernel⟩, List.mem_of_getElem? (i := 784) (by decide +kernel), List.mem_of_getElem? (i := 1023) (by decide +kernel), List.mem_of_getElem? (i := 1024) (by decide +kernel)⟩
theorem lw_p35 : lw_okq (⟨"HandshakeBindsModel", "isOpened", "(I)Z"⟩, 46) := ⟨⟨by decide +kernel, by decide +kernel⟩, List.mem_of_getElem? (i := 784) (by decide +kernel), List.mem_of_getElem? (i := 1027) (by decide +kernel), List.mem_of_getElem? (i := 1028) (by decide +kernel)⟩
theorem lw_p36 : lw_okq (⟨"HandshakeBindsModel", "codes", "(I)Z"⟩, 46) := ⟨⟨by decide +kernel, by decide +kernel⟩, List.mem_of_getElem? (i := 784) (by decide +kernel), List.mem_of_getElem? (i := 1031) (by decide +kernel), List.mem_of_getElem? (i := 1032) (by decide +kernel)⟩
theorem lw_p37 : lw_okq (⟨"HandshakeBindsModel", "isTest", "()Z"⟩, 46) := ⟨⟨by decide +kernel, by decide +kernel⟩, List.mem_of_getElem? (i := 784) (by decide +kernel), List.mem_of_getElem? (i := 1035) (by decide +kernel), List.mem_of_getElem? (i := 1036) (by decide +kernel)⟩
theorem lw_p38 : lw_okq (⟨"HandshakeBindsModel", "readBy", "(IIII)I"⟩, 46) := ⟨⟨by decide +kernel, by decide +kernel⟩, List.mem_of_getElem? (i := 784) (by decide +kernel), List.mem_of_getElem? (i := 1103) (by decide +kernel), List.mem_of_getElem? (i := 1104) (by decide +kernel)⟩
theorem lw_p39 : lw_okq (⟨"HandshakeBindsModel", "force", "(IIII)I"⟩, 46) := ⟨⟨by decide +kernel, by decide +kernel⟩, List.mem_of_getElem? (i := 784) (by decide +kernel), List.mem_of_getElem? (i := 1107) (by decide +kernel), List.mem_of_getElem? (i := 1108) (by decide +kernel)⟩
theorem lw_p40 : lw_okq (⟨"HandshakeBindsModel", "isTrue", "(IIIII)Z"⟩, 46) := ⟨⟨by decide +kernel, by decide +kernel⟩, List.mem_of_getElem? (i := 784) (by decide +kernel), List.mem_of_getElem? (i := 1111) (by decide +kernel), List.mem_of_getElem? (i := 1112) (by decide +kernel)⟩
theorem lw_p41 : lw_okq (⟨"HandshakeBindsModel", "letterOf", "(IIIII)I"⟩, 46) := ⟨⟨by decide +kernel, by decide +kernel⟩, List.mem_of_getElem? (i := 784) (by decide +kernel), List.mem_of_getElem? (i := 1115) (by decide +kernel), List.mem_of_getElem? (i := 1116) (by decide +kernel)⟩
theorem lw_p42 : lw_okq (⟨"HandshakeBindsModel", "bind", "()I"⟩, 46) := ⟨⟨by decide +kernel, by decide +kernel⟩, List.mem_of_getElem? (i := 784) (by decide +kernel), List.mem_of_getElem? (i := 1119) (by decide +kernel), List.mem_of_getElem? (i := 1120) (by decide +kernel)⟩
theorem lw_p43 : lw_okq (⟨"HandshakeBindsModel", "span", "(II)I"⟩, 46) := ⟨⟨by decide +kernel, by decide +kernel⟩, List.mem_of_getElem? (i := 784) (by decide +kernel), List.mem_of_getElem? (i := 1132) (by decide +kernel), List.mem_of_getElem? (i := 1133) (by decide +kernel)⟩
theorem lw_p44 : lw_okq (⟨"HandshakeBindsModel", "rescue", "()I"⟩, 46) := ⟨⟨by decide +kernel, by decide +kernel⟩, List.mem_of_getElem? (i := 784) (by decide +kernel), List.mem_of_getElem? (i := 1144) (by decide +kernel), List.mem_of_getElem? (i := 1145) (by decide +kernel)⟩
theorem lw_p45 : lw_okq (⟨"HandshakeBindsModel", "saves", "(I)Z"⟩, 46) := ⟨⟨by decide +kernel, by decide +kernel⟩, List.mem_of_getElem? (i := 784) (by decide +kernel), List.mem_of_getElem? (i := 1154) (by decide +kernel), List.mem_of_getElem? (i := 1155) (by decide +kernel)⟩
theorem lw_p46 : lw_okq (⟨"HandshakeBindsModel", "keep", "([I)V"⟩, 46) := ⟨⟨by decide +kernel, by decide +kernel⟩, List.mem_of_getElem? (i := 784) (by decide +kernel), List.mem_of_getElem? (i := 1158) (by decide +kernel), List.mem_of_getElem? (i := 1159) (by decide +kernel)⟩
theorem lw_p47 : lw_okq (⟨"HandshakeBindsModel", "again", "([I)V"⟩, 46) := ⟨⟨by decide +kernel, by decide +kernel⟩, List.mem_of_getElem? (i := 784) (by decide +kernel), List.mem_of_getElem? (i := 1163) (by decide +kernel), List.mem_of_getElem? (i := 1164) (by decide +kernel)⟩
def lw_privs_3 : List (MethodName × Nat) := [(⟨"HandshakeBindsModel", "isE", "()Z"⟩, 46), (⟨"HandshakeBindsModel", "isT", "()Z"⟩, 46), (⟨"HandshakeBindsModel", "isF", "()Z"⟩, 46), (⟨"HandshakeBindsModel", "isOpened", "(I)Z"⟩, 46), (⟨"HandshakeBindsModel", "codes", "(I)Z"⟩, 46), (⟨"HandshakeBindsModel", "isTest", "()Z"⟩, 46), (⟨"HandshakeBindsModel", "readBy", "(IIII)I"⟩, 46), (⟨"HandshakeBindsModel", "force", "(IIII)I"⟩, 46), (⟨"HandshakeBindsModel", "isTrue", "(IIIII)Z"⟩, 46), (⟨"HandshakeBindsModel", "letterOf", "(IIIII)I"⟩, 46), (⟨"HandshakeBindsModel", "bind", "()I"⟩, 46), (⟨"HandshakeBindsModel", "span", "(II)I"⟩, 46), (⟨"HandshakeBindsModel", "rescue", "()I"⟩, 46), (⟨"HandshakeBindsModel", "saves", "(I)Z"⟩, 46), (⟨"HandshakeBindsModel", "keep", "([I)V"⟩, 46), (⟨"HandshakeBindsModel", "again", "([I)V"⟩, 46)]
theorem lw_r3 : ∀ q ∈ lw_privs_3, lw_okq q := List.forall_mem_cons.mpr ⟨lw_p32, List.forall_mem_cons.mpr ⟨lw_p33, List.forall_mem_cons.mpr ⟨lw_p34, List.forall_mem_cons.mpr ⟨lw_p35, List.forall_mem_cons.mpr ⟨lw_p36, List.forall_mem_cons.mpr ⟨lw_p37, List.forall_mem_cons.mpr ⟨lw_p38, List.forall_mem_cons.mpr ⟨lw_p39, List.forall_mem_cons.mpr ⟨lw_p40, List.forall_mem_cons.mpr ⟨lw_p41, List.forall_mem_cons.mpr ⟨lw_p42, List.forall_mem_cons.mpr ⟨lw_p43, List.forall_mem_cons.mpr ⟨lw_p44, List.forall_mem_cons.mpr ⟨lw_p45, List.forall_mem_cons.mpr ⟨lw_p46, List.forall_mem_cons.mpr ⟨lw_p47, fun _ h => absurd h List.not_mem_nil⟩⟩⟩⟩⟩⟩⟩⟩⟩⟩⟩⟩⟩⟩⟩⟩
theorem lw_p48 : lw_okq (⟨"HandshakeBindsModel", "payments", "()I"⟩, 46) := ⟨⟨by decide +kernel, by decide +kernel⟩, List.mem_of_getElem? (i := 784) (by decide +kernel), List.mem_of_getElem? (i := 1167) (by decide +kernel), List.mem_of_getElem? (i := 1168) (by decide +kernel)⟩
theorem lw_p49 : lw_okq (⟨"HandshakeBindsModel", "balances", "(I)I"⟩, 46) := ⟨⟨by decide +kernel, by decide +kernel⟩, List.mem_of_getElem? (i := 784) (by decide +kernel), List.mem_of_getElem? (i := 1171) (by decide +kernel), List.mem_of_getElem? (i := 1172) (by decide +kernel)⟩
theorem lw_p50 : lw_okq (⟨"HandshakeBindsModel", "ring", "()I"⟩, 46) := ⟨⟨by decide +kernel, by decide +kernel⟩, List.mem_of_getElem? (i := 784) (by decide +kernel), List.mem_of_getElem? (i := 1176) (by decide +kernel), List.mem_of_getElem? (i := 1177) (by decide +kernel)⟩
theorem lw_p51 : lw_okq (⟨"HandshakeBindsModel", "ringFrom", "(IIII)I"⟩, 46) := ⟨⟨by decide +kernel, by decide +kernel⟩, List.mem_of_getElem? (i := 784) (by decide +kernel), List.mem_of_getElem? (i := 1180) (by decide +kernel), List.mem_of_getElem? (i := 1181) (by decide +kernel)⟩
theorem lw_p52 : lw_okq (⟨"HandshakeBindsModel", "offset", "()I"⟩, 46) := ⟨⟨by decide +kernel, by decide +kernel⟩, List.mem_of_getElem? (i := 784) (by decide +kernel), List.mem_of_getElem? (i := 1184) (by decide +kernel), List.mem_of_getElem? (i := 1185) (by decide +kernel)⟩
theorem lw_p53 : lw_okq (⟨"HandshakeBindsModel", "allDebt", "()I"⟩, 46) := ⟨⟨by decide +kernel, by decide +kernel⟩, List.mem_of_getElem? (i := 784) (by decide +kernel), List.mem_of_getElem? (i := 1189) (by decide +kernel), List.mem_of_getElem? (i := 1190) (by decide +kernel)⟩
theorem lw_p54 : lw_okq (⟨"HandshakeBindsModel", "isSo", "(I)Z"⟩, 46) := ⟨⟨by decide +kernel, by decide +kernel⟩, List.mem_of_getElem? (i := 784) (by decide +kernel), List.mem_of_getElem? (i := 1205) (by decide +kernel), List.mem_of_getElem? (i := 1206) (by decide +kernel)⟩
theorem lw_p55 : lw_okq (⟨"HandshakeBindsModel", "isAllSo", "(I)Z"⟩, 46) := ⟨⟨by decide +kernel, by decide +kernel⟩, List.mem_of_getElem? (i := 784) (by decide +kernel), List.mem_of_getElem? (i := 1213) (by decide +kernel), List.mem_of_getElem? (i := 1214) (by decide +kernel)⟩
theorem lw_p56 : lw_okq (⟨"HandshakeBindsModel", "paysAll", "(I)V"⟩, 46) := ⟨⟨by decide +kernel, by decide +kernel⟩, List.mem_of_getElem? (i := 784) (by decide +kernel), List.mem_of_getElem? (i := 1237) (by decide +kernel), List.mem_of_getElem? (i := 1238) (by decide +kernel)⟩
theorem lw_p57 : lw_okq (⟨"HandshakeBindsModel", "grips", "(III)I"⟩, 46) := ⟨⟨by decide +kernel, by decide +kernel⟩, List.mem_of_getElem? (i := 784) (by decide +kernel), List.mem_of_getElem? (i := 1265) (by decide +kernel), List.mem_of_getElem? (i := 1266) (by decide +kernel)⟩
theorem lw_p58 : lw_okq (⟨"HandshakeBindsModel", "ran", "(I)V"⟩, 46) := ⟨⟨by decide +kernel, by decide +kernel⟩, List.mem_of_getElem? (i := 784) (by decide +kernel), List.mem_of_getElem? (i := 1269) (by decide +kernel), List.mem_of_getElem? (i := 1270) (by decide +kernel)⟩
theorem lw_p59 : lw_okq (⟨"HandshakeBindsModel", "lets", "(III)I"⟩, 46) := ⟨⟨by decide +kernel, by decide +kernel⟩, List.mem_of_getElem? (i := 784) (by decide +kernel), List.mem_of_getElem? (i := 1276) (by decide +kernel), List.mem_of_getElem? (i := 1277) (by decide +kernel)⟩
theorem lw_p60 : lw_okq (⟨"HandshakeBindsModel", "tells", "(III)I"⟩, 46) := ⟨⟨by decide +kernel, by decide +kernel⟩, List.mem_of_getElem? (i := 784) (by decide +kernel), List.mem_of_getElem? (i := 1280) (by decide +kernel), List.mem_of_getElem? (i := 1281) (by decide +kernel)⟩
def lw_privs_4 : List (MethodName × Nat) := [(⟨"HandshakeBindsModel", "payments", "()I"⟩, 46), (⟨"HandshakeBindsModel", "balances", "(I)I"⟩, 46), (⟨"HandshakeBindsModel", "ring", "()I"⟩, 46), (⟨"HandshakeBindsModel", "ringFrom", "(IIII)I"⟩, 46), (⟨"HandshakeBindsModel", "offset", "()I"⟩, 46), (⟨"HandshakeBindsModel", "allDebt", "()I"⟩, 46), (⟨"HandshakeBindsModel", "isSo", "(I)Z"⟩, 46), (⟨"HandshakeBindsModel", "isAllSo", "(I)Z"⟩, 46), (⟨"HandshakeBindsModel", "paysAll", "(I)V"⟩, 46), (⟨"HandshakeBindsModel", "grips", "(III)I"⟩, 46), (⟨"HandshakeBindsModel", "ran", "(I)V"⟩, 46), (⟨"HandshakeBindsModel", "lets", "(III)I"⟩, 46), (⟨"HandshakeBindsModel", "tells", "(III)I"⟩, 46)]
theorem lw_r4 : ∀ q ∈ lw_privs_4, lw_okq q := List.forall_mem_cons.mpr ⟨lw_p48, List.forall_mem_cons.mpr ⟨lw_p49, List.forall_mem_cons.mpr ⟨lw_p50, List.forall_mem_cons.mpr ⟨lw_p51, List.forall_mem_cons.mpr ⟨lw_p52, List.forall_mem_cons.mpr ⟨lw_p53, List.forall_mem_cons.mpr ⟨lw_p54, List.forall_mem_cons.mpr ⟨lw_p55, List.forall_mem_cons.mpr ⟨lw_p56, List.forall_mem_cons.mpr ⟨lw_p57, List.forall_mem_cons.mpr ⟨lw_p58, List.forall_mem_cons.mpr ⟨lw_p59, List.forall_mem_cons.mpr ⟨lw_p60, fun _ h => absurd h List.not_mem_nil⟩⟩⟩⟩⟩⟩⟩⟩⟩⟩⟩⟩⟩
def lw_privs : List (MethodName × Nat) := lw_privs_1 ++ (lw_privs_2 ++ (lw_privs_3 ++ (lw_privs_4)))
def lw_tbl : List Cond := k2_sels lw_privs ++ tables_1
theorem lw_privs_ok : ∀ q ∈ lw_privs, lw_okq q := by
  show ∀ q ∈ lw_privs_1 ++ (lw_privs_2 ++ (lw_privs_3 ++ (lw_privs_4))), lw_okq q
  exact List.forall_mem_append.mpr ⟨lw_r1, List.forall_mem_append.mpr ⟨lw_r2, List.forall_mem_append.mpr ⟨lw_r3, lw_r4⟩⟩⟩

def R_HB : String := "HandshakeBinds"
def F_HB : u_T := fun k => match k with
  | 0 => ("HandshakeBinds", "now", "LHandshakeBinds$Market;", true)
  | 1 => ("HandshakeBinds", "kept", "LHandshakeBinds$Market;", true)
  | 2 => ("HandshakeBinds", "trial", "LHandshakeBinds$Ledger;", true)
  | 3 => ("HandshakeBinds", "scribe", "LHandshakeBinds$Scribe;", true)
  | 4 => ("HandshakeBinds", "actor", "LHandshakeBinds$Actor;", true)
  | 5 => ("HandshakeBinds", "tapes", "[LHandshakeBinds$Tape;", true)
  | _ => ("HandshakeBinds", "hasImage", "Z", false)
def t_HB : Nat → FieldType := fun k => match k with
  | 0 => .object "HandshakeBinds$Market"
  | 1 => .object "HandshakeBinds$Market"
  | 2 => .object "HandshakeBinds$Ledger"
  | 3 => .object "HandshakeBinds$Scribe"
  | 4 => .object "HandshakeBinds$Actor"
  | 5 => .array (.object "HandshakeBinds$Tape")
  | _ => .boolean
theorem n_HB : ∀ a, a < 7 → ∀ b, b < 7 → a ≠ b → (F_HB a).2.1 ≠ (F_HB b).2.1 := by decide +kernel
theorem t_HB_ok : ∀ k, k < 7 → parseFieldDescriptor (F_HB k).2.2.1 = some (t_HB k) := by decide +kernel
def R_Mkt : String := "HandshakeBinds$Market"
def F_Mkt : u_T := fun k => match k with
  | 0 => ("HandshakeBinds$Market", "ledger", "LHandshakeBinds$Ledger;", true)
  | 1 => ("HandshakeBinds$Market", "kinds", "[I", true)
  | 2 => ("HandshakeBinds$Market", "vs", "[I", true)
  | 3 => ("HandshakeBinds$Market", "toldRows", "[I", true)
  | 4 => ("HandshakeBinds$Market", "seen", "LHandshakeBinds$Rows;", true)
  | 5 => ("HandshakeBinds$Market", "planned", "LHandshakeBinds$Rows;", true)
  | 6 => ("HandshakeBinds$Market", "booked", "LHandshakeBinds$Rows;", true)
  | 7 => ("HandshakeBinds$Market", "sums", "[I", true)
  | 8 => ("HandshakeBinds$Market", "facts", "LHandshakeBinds$Facts;", true)
  | 9 => ("HandshakeBinds$Market", "day", "I", false)
  | _ => ("HandshakeBinds$Market", "holding", "I", false)
def t_Mkt : Nat → FieldType := fun k => match k with
  | 0 => .object "HandshakeBinds$Ledger"
  | 1 => .array .int
  | 2 => .array .int
  | 3 => .array .int
  | 4 => .object "HandshakeBinds$Rows"
  | 5 => .object "HandshakeBinds$Rows"
  | 6 => .object "HandshakeBinds$Rows"
  | 7 => .array .int
  | 8 => .object "HandshakeBinds$Facts"
  | 9 => .int
  | _ => .int
theorem n_Mkt : ∀ a, a < 11 → ∀ b, b < 11 → a ≠ b → (F_Mkt a).2.1 ≠ (F_Mkt b).2.1 := by decide +kernel
theorem t_Mkt_ok : ∀ k, k < 11 → parseFieldDescriptor (F_Mkt k).2.2.1 = some (t_Mkt k) := by decide +kernel
def R_Led : String := "HandshakeBinds$Ledger"
def F_Led : u_T := fun k => match k with
  | 0 => ("HandshakeBinds$Ledger", "purses", "[I", true)
  | 1 => ("HandshakeBinds$Ledger", "debts", "[I", true)
  | 2 => ("HandshakeBinds$Ledger", "mostSets", "[I", true)
  | _ => ("HandshakeBinds$Ledger", "size", "I", false)
def t_Led : Nat → FieldType := fun k => match k with
  | 0 => .array .int
  | 1 => .array .int
  | 2 => .array .int
  | _ => .int
theorem n_Led : ∀ a, a < 4 → ∀ b, b < 4 → a ≠ b → (F_Led a).2.1 ≠ (F_Led b).2.1 := by decide +kernel
theorem t_Led_ok : ∀ k, k < 4 → parseFieldDescriptor (F_Led k).2.2.1 = some (t_Led k) := by decide +kernel
def R_Rws : String := "HandshakeBinds$Rows"
def F_Rws : u_T := fun k => match k with
  | 0 => ("HandshakeBinds$Rows", "cells", "[I", true)
  | _ => ("HandshakeBinds$Rows", "size", "I", false)
def t_Rws : Nat → FieldType := fun k => match k with
  | 0 => .array .int
  | _ => .int
theorem n_Rws : ∀ a, a < 2 → ∀ b, b < 2 → a ≠ b → (F_Rws a).2.1 ≠ (F_Rws b).2.1 := by decide +kernel
theorem t_Rws_ok : ∀ k, k < 2 → parseFieldDescriptor (F_Rws k).2.2.1 = some (t_Rws k) := by decide +kernel
def R_Fac : String := "HandshakeBinds$Facts"
def F_Fac : u_T := fun k => match k with
  | 0 => ("HandshakeBinds$Facts", "one", "I", false)
  | 1 => ("HandshakeBinds$Facts", "other", "I", false)
  | 2 => ("HandshakeBinds$Facts", "kind", "I", false)
  | 3 => ("HandshakeBinds$Facts", "v", "I", false)
  | 4 => ("HandshakeBinds$Facts", "squeeze", "I", false)
  | _ => ("HandshakeBinds$Facts", "day", "I", false)
def t_Fac : Nat → FieldType := fun k => match k with
  | 0 => .int
  | 1 => .int
  | 2 => .int
  | 3 => .int
  | 4 => .int
  | _ => .int
theorem n_Fac : ∀ a, a < 6 → ∀ b, b < 6 → a ≠ b → (F_Fac a).2.1 ≠ (F_Fac b).2.1 := by decide +kernel
theorem t_Fac_ok : ∀ k, k < 6 → parseFieldDescriptor (F_Fac k).2.2.1 = some (t_Fac k) := by decide +kernel
def R_Exc : String := "HandshakeBinds$Exchange"
def F_Exc : u_T := fun k => match k with
  | 0 => ("HandshakeBinds$Exchange", "steps", "[I", true)
  | 1 => ("HandshakeBinds$Exchange", "stops", "[I", true)
  | 2 => ("HandshakeBinds$Exchange", "weights", "[I", true)
  | 3 => ("HandshakeBinds$Exchange", "size", "I", false)
  | 4 => ("HandshakeBinds$Exchange", "clauses", "I", false)
  | _ => ("HandshakeBinds$Exchange", "bind", "I", false)
def t_Exc : Nat → FieldType := fun k => match k with
  | 0 => .array .int
  | 1 => .array .int
  | 2 => .array .int
  | 3 => .int
  | 4 => .int
  | _ => .int
theorem n_Exc : ∀ a, a < 6 → ∀ b, b < 6 → a ≠ b → (F_Exc a).2.1 ≠ (F_Exc b).2.1 := by decide +kernel
theorem t_Exc_ok : ∀ k, k < 6 → parseFieldDescriptor (F_Exc k).2.2.1 = some (t_Exc k) := by decide +kernel
def R_Scr : String := "HandshakeBinds$Scribe"
def F_Scr : u_T := fun k => match k with
  | 0 => ("HandshakeBinds$Scribe", "text", "[I", true)
  | 1 => ("HandshakeBinds$Scribe", "exchanges", "[LHandshakeBinds$Exchange;", true)
  | 2 => ("HandshakeBinds$Scribe", "empty", "LHandshakeBinds$Exchange;", true)
  | 3 => ("HandshakeBinds$Scribe", "size", "I", false)
  | 4 => ("HandshakeBinds$Scribe", "known", "I", false)
  | 5 => ("HandshakeBinds$Scribe", "place", "I", false)
  | _ => ("HandshakeBinds$Scribe", "made", "LHandshakeBinds$Exchange;", false)
def t_Scr : Nat → FieldType := fun k => match k with
  | 0 => .array .int
  | 1 => .array (.object "HandshakeBinds$Exchange")
  | 2 => .object "HandshakeBinds$Exchange"
  | 3 => .int
  | 4 => .int
  | 5 => .int
  | _ => .object "HandshakeBinds$Exchange"
theorem n_Scr : ∀ a, a < 7 → ∀ b, b < 7 → a ≠ b → (F_Scr a).2.1 ≠ (F_Scr b).2.1 := by decide +kernel
theorem t_Scr_ok : ∀ k, k < 7 → parseFieldDescriptor (F_Scr k).2.2.1 = some (t_Scr k) := by decide +kernel
def R_Act : String := "HandshakeBinds$Actor"
def F_Act : u_T := fun k => match k with
  | 0 => ("HandshakeBinds$Actor", "bodies", "[I", true)
  | 1 => ("HandshakeBinds$Actor", "ran", "I", false)
  | 2 => ("HandshakeBinds$Actor", "number", "I", false)
  | 3 => ("HandshakeBinds$Actor", "kind", "I", false)
  | _ => ("HandshakeBinds$Actor", "v", "I", false)
def t_Act : Nat → FieldType := fun k => match k with
  | 0 => .array .int
  | 1 => .int
  | 2 => .int
  | 3 => .int
  | _ => .int
theorem n_Act : ∀ a, a < 5 → ∀ b, b < 5 → a ≠ b → (F_Act a).2.1 ≠ (F_Act b).2.1 := by decide +kernel
theorem t_Act_ok : ∀ k, k < 5 → parseFieldDescriptor (F_Act k).2.2.1 = some (t_Act k) := by decide +kernel
def R_Tap : String := "HandshakeBinds$Tape"
def F_Tap : u_T := fun k => match k with
  | 0 => ("HandshakeBinds$Tape", "items", "[J", true)
  | 1 => ("HandshakeBinds$Tape", "sort", "I", false)
  | _ => ("HandshakeBinds$Tape", "size", "I", false)
def t_Tap : Nat → FieldType := fun k => match k with
  | 0 => .array .long
  | 1 => .int
  | _ => .int
theorem n_Tap : ∀ a, a < 3 → ∀ b, b < 3 → a ≠ b → (F_Tap a).2.1 ≠ (F_Tap b).2.1 := by decide +kernel
theorem t_Tap_ok : ∀ k, k < 3 → parseFieldDescriptor (F_Tap k).2.2.1 = some (t_Tap k) := by decide +kernel
def R_Mod : String := "HandshakeBindsModel"
def F_Mod : u_T := fun k => match k with
  | 0 => ("HandshakeBindsModel", "traders", "I", false)
  | 1 => ("HandshakeBindsModel", "kind", "[I", true)
  | 2 => ("HandshakeBindsModel", "v", "[I", true)
  | 3 => ("HandshakeBindsModel", "purse", "[I", true)
  | 4 => ("HandshakeBindsModel", "rows", "[I", true)
  | 5 => ("HandshakeBindsModel", "debt", "[I", true)
  | 6 => ("HandshakeBindsModel", "day", "I", false)
  | 7 => ("HandshakeBindsModel", "texted", "I", false)
  | 8 => ("HandshakeBindsModel", "text", "[I", true)
  | 9 => ("HandshakeBindsModel", "at", "I", false)
  | 10 => ("HandshakeBindsModel", "value", "I", false)
  | 11 => ("HandshakeBindsModel", "digits", "I", false)
  | 12 => ("HandshakeBindsModel", "open", "I", false)
  | 13 => ("HandshakeBindsModel", "exchanges", "I", false)
  | 14 => ("HandshakeBindsModel", "holds", "I", false)
  | 15 => ("HandshakeBindsModel", "clauses", "[I", true)
  | 16 => ("HandshakeBindsModel", "word", "[I", true)
  | 17 => ("HandshakeBindsModel", "number", "[I", true)
  | 18 => ("HandshakeBindsModel", "begins", "[I", true)
  | 19 => ("HandshakeBindsModel", "length", "[I", true)
  | 20 => ("HandshakeBindsModel", "code", "[I", true)
  | 21 => ("HandshakeBindsModel", "coded", "I", false)
  | 22 => ("HandshakeBindsModel", "stack", "[Z", true)
  | 23 => ("HandshakeBindsModel", "seen", "I", false)
  | 24 => ("HandshakeBindsModel", "seenBy", "[I", true)
  | 25 => ("HandshakeBindsModel", "seenOf", "[I", true)
  | 26 => ("HandshakeBindsModel", "seenSqueeze", "[I", true)
  | 27 => ("HandshakeBindsModel", "seenIn", "[I", true)
  | 28 => ("HandshakeBindsModel", "seenSum", "[I", true)
  | 29 => ("HandshakeBindsModel", "inPlan", "I", false)
  | 30 => ("HandshakeBindsModel", "goes", "[I", true)
  | 31 => ("HandshakeBindsModel", "whose", "[I", true)
  | 32 => ("HandshakeBindsModel", "inBook", "I", false)
  | 33 => ("HandshakeBindsModel", "bookBy", "[I", true)
  | 34 => ("HandshakeBindsModel", "bookOf", "[I", true)
  | 35 => ("HandshakeBindsModel", "bookDebt", "[I", true)
  | 36 => ("HandshakeBindsModel", "traced", "I", false)
  | 37 => ("HandshakeBindsModel", "traces", "[I", true)
  | 38 => ("HandshakeBindsModel", "imaged", "Z", false)
  | 39 => ("HandshakeBindsModel", "image", "[I", true)
  | 40 => ("HandshakeBindsModel", "ahead", "[I", true)
  | 41 => ("HandshakeBindsModel", "parts", "[I", true)
  | 42 => ("HandshakeBindsModel", "sums", "[Z", true)
  | 43 => ("HandshakeBindsModel", "tapeSort", "[I", true)
  | 44 => ("HandshakeBindsModel", "tapeSize", "[I", true)
  | _ => ("HandshakeBindsModel", "items", "[J", true)
def t_Mod : Nat → FieldType := fun k => match k with
  | 0 => .int
  | 1 => .array .int
  | 2 => .array .int
  | 3 => .array .int
  | 4 => .array .int
  | 5 => .array .int
  | 6 => .int
  | 7 => .int
  | 8 => .array .int
  | 9 => .int
  | 10 => .int
  | 11 => .int
  | 12 => .int
  | 13 => .int
  | 14 => .int
  | 15 => .array .int
  | 16 => .array .int
  | 17 => .array .int
  | 18 => .array .int
  | 19 => .array .int
  | 20 => .array .int
  | 21 => .int
  | 22 => .array .boolean
  | 23 => .int
  | 24 => .array .int
  | 25 => .array .int
  | 26 => .array .int
  | 27 => .array .int
  | 28 => .array .int
  | 29 => .int
  | 30 => .array .int
  | 31 => .array .int
  | 32 => .int
  | 33 => .array .int
  | 34 => .array .int
  | 35 => .array .int
  | 36 => .int
  | 37 => .array .int
  | 38 => .boolean
  | 39 => .array .int
  | 40 => .array .int
  | 41 => .array .int
  | 42 => .array .boolean
  | 43 => .array .int
  | 44 => .array .int
  | _ => .array .long
theorem n_Mod : ∀ a, a < 46 → ∀ b, b < 46 → a ≠ b → (F_Mod a).2.1 ≠ (F_Mod b).2.1 := by decide +kernel
theorem t_Mod_ok : ∀ k, k < 46 → parseFieldDescriptor (F_Mod k).2.2.1 = some (t_Mod k) := by decide +kernel
abbrev CLS : List vw_C := [(R_HB, F_HB, 7), (R_Mkt, F_Mkt, 11), (R_Led, F_Led, 4), (R_Rws, F_Rws, 2), (R_Fac, F_Fac, 6), (R_Exc, F_Exc, 6), (R_Scr, F_Scr, 7), (R_Act, F_Act, 5), (R_Tap, F_Tap, 3), (R_Mod, F_Mod, 46)]
def TB : List Cond := lw_tbl.filter goodWord
def isNest : Cond → Bool
  | .fieldLinkNest _ _ _ _ _ _ => true
  | .methodLinkNest _ _ _ _ => true
  | _ => false
def NW : List Cond := lw_tbl.filter isNest
theorem inTB {w : Cond} (i : Nat) (h : lw_tbl[i]? = some w) (hg : goodWord w = true) : w ∈ TB := List.mem_filter.mpr ⟨List.mem_of_getElem? h, hg⟩
theorem inNW {w : Cond} (i : Nat) (h : lw_tbl[i]? = some w) (hg : isNest w = true) : w ∈ NW := List.mem_filter.mpr ⟨List.mem_of_getElem? h, hg⟩
theorem TB_good : ∀ w ∈ TB, goodWord w = true := fun _ h => (List.mem_filter.mp h).2
theorem TB_in : ∀ w ∈ TB, w ∈ lw_tbl := fun _ h => (List.mem_filter.mp h).1
theorem i_HB : ∀ w ∈ u_ws R_HB F_HB 7, w ∈ TB := by decide +kernel
theorem i_Mkt : ∀ w ∈ u_ws R_Mkt F_Mkt 11, w ∈ TB := by decide +kernel
theorem i_Led : ∀ w ∈ u_ws R_Led F_Led 4, w ∈ TB := by decide +kernel
theorem i_Rws : ∀ w ∈ u_ws R_Rws F_Rws 2, w ∈ TB := by decide +kernel
theorem i_Fac : ∀ w ∈ u_ws R_Fac F_Fac 6, w ∈ TB := by decide +kernel
theorem i_Exc : ∀ w ∈ u_ws R_Exc F_Exc 6, w ∈ TB := by decide +kernel
theorem i_Scr : ∀ w ∈ u_ws R_Scr F_Scr 7, w ∈ TB := by decide +kernel
theorem i_Act : ∀ w ∈ u_ws R_Act F_Act 5, w ∈ TB := by decide +kernel
theorem i_Tap : ∀ w ∈ u_ws R_Tap F_Tap 3, w ∈ TB := by decide +kernel
theorem i_Mod : ∀ w ∈ u_ws R_Mod F_Mod 46, w ∈ TB := by decide +kernel
end
section
/-! THE FRAME: a method's run over a world, with all that never changes in one place. -/
abbrev Xn : Type := Launch × va_G × (Nat → ClassId) × (Nat → Nat)
abbrev Xtys (X : Xn) : List (ClassId × FieldType) := [(X.2.2.1 0, .int), (X.2.2.1 1, .long), (X.2.2.1 2, .boolean), (X.2.2.1 3, .object "HandshakeBinds$Exchange"), (X.2.2.1 4, .object "HandshakeBinds$Tape")]
def aboveV : List Int32 := [-1, 0, 0, 0, 1, 2, 3]
def bodyV : List Int32 := [10, 11, 12, 0, 20, 0, 30, 0, 0, 0, 0, 40, 50, 51, 0, 0, 0, 60, 71, 70, 0]
def litN : Nat → String × Nat × String := fun i => match i with
  | 0 => ("HandshakeBinds$Scribe", 62, "firm")
  | 1 => ("HandshakeBinds$Scribe", 64, "limp")
  | 2 => ("HandshakeBinds$Scribe", 66, "bind")
  | 3 => ("HandshakeBindsModel", 206, "firm ")
  | 4 => ("HandshakeBindsModel", 212, "limp ")
  | 5 => ("HandshakeBindsModel", 214, "bind ")
  | 6 => ("HandshakeBindsModel", 175, "pqkvsd")
  | _ => ("HandshakeBindsModel", 180, "<=>")
def litB : List (List Int32) := [[102, 105, 114, 109], [108, 105, 109, 112], [98, 105, 110, 100], [102, 105, 114, 109, 32], [108, 105, 109, 112, 32], [98, 105, 110, 100, 32], [112, 113, 107, 118, 115, 100], [60, 61, 62]]
def litL : List Nat := [4, 4, 4, 5, 5, 5, 6, 3]
def Xst (X : Xn) (A : Nat → Prop) (U : State) (H : Heap) : Prop :=
  va_Z "HandshakeBinds" "ABOVE" "[I" (.ref (X.2.2.2 0)) A U H ∧ va_T .int (X.2.2.2 0) 7 (fun j => .int (aboveV.getD j 0)) A U H ∧
  va_Z "HandshakeBinds" "BODIES" "[I" (.ref (X.2.2.2 1)) A U H ∧ va_T .int (X.2.2.2 1) 21 (fun j => .int (bodyV.getD j 0)) A U H ∧
  va_Z "java/lang/String" "COMPACT_STRINGS" "Z" (.int 1) A U H ∧ va_Zq "jdk/internal/util/Preconditions" "SIOOBE_FORMATTER" "Ljava/util/function/BiFunction;" A U H ∧
  vk_S 8 litL litB (fun i => X.2.2.2 (10 + i)) (fun i => X.2.2.2 (30 + i)) A U H ∧
  (∀ i : Nat, i < 8 → vk_R (litN i).1 (litN i).2.1 (litN i).2.2 (X.2.2.2 (10 + i)) U) ∧
  va_AO "HandshakeBinds$Exchange" U ∧ va_AO "HandshakeBinds$Tape" U ∧ ∀ w ∈ NW, va_Nw w U
theorem NW_warm {s U : State} (hW : s.WarmedH U.vm) (h : ∀ w ∈ NW, va_Nw w s) : ∀ w ∈ NW, va_Nw w U := by
  intro w hw
  have h1 := h w hw
  have h2 : isNest w = true := (List.mem_filter.mp hw).2
  cases w <;> first | exact va_Nw.warmF hW h1 | exact va_Nw.warmM hW h1 | exact absurd h2 (by simp [isNest])
theorem NW_same {s U : State} (hv : s.vm = U.vm) (h : ∀ w ∈ NW, va_Nw w s) : ∀ w ∈ NW, va_Nw w U := by
  intro w hw
  have h1 := h w hw
  have h2 : isNest w = true := (List.mem_filter.mp hw).2
  cases w <;> first | exact va_Nw.same rfl hv h1 | exact absurd h2 (by simp [isNest])
theorem Xst.kept {X : Xn} {A : Nat → Prop} {U : State} {H H1 : Heap} (h : Xst X A U H) (hq : ∀ a : Nat, a < H.size → ¬ A a → H1[a]? = H[a]?) : Xst X A U H1 := by
  obtain ⟨h1, h2, h3, h4, h5, h6, h7, h8, h9, h10, h11⟩ := h
  exact ⟨h1.kept hq, h2.kept hq, h3.kept hq, h4.kept hq, h5.kept hq, h6.kept hq, h7.kept hq, h8, h9, h10, h11⟩
theorem Xst.narrow {X : Xn} {A B : Nat → Prop} {U : State} {H : Heap} (h : Xst X A U H) (hq : ∀ q, B q → A q) : Xst X B U H := by
  obtain ⟨h1, h2, h3, h4, h5, h6, h7, h8, h9, h10, h11⟩ := h
  exact ⟨h1.narrow hq, h2.narrow hq, h3.narrow hq, h4.narrow hq, h5.narrow hq, h6.narrow hq, h7.narrow hq, h8, h9, h10, h11⟩
theorem Xst.warm {X : Xn} {A : Nat → Prop} {s U : State} {H : Heap} (hW : s.WarmedH U.vm) (h : Xst X A s H) : Xst X A U H := by
  obtain ⟨h1, h2, h3, h4, h5, h6, h7, h8, h9, h10, h11⟩ := h
  have a := hW.alike
  exact ⟨h1.moved a, h2.moved a, h3.moved a, h4.moved a, h5.moved a, h6.moved a, h7.moved a, fun i hi => (h8 i hi).warm hW, h9.moved a, h10.moved a, NW_warm hW h11⟩
theorem Xst.same {X : Xn} {A : Nat → Prop} {s U : State} {H : Heap} (hv : s.vm = U.vm) (h : Xst X A s H) : Xst X A U H := by
  obtain ⟨h1, h2, h3, h4, h5, h6, h7, h8, h9, h10, h11⟩ := h
  have a : s.vm.Alike U.vm := by rw [hv]; exact Vm.Alike.refl U.vm
  exact ⟨h1.moved a, h2.moved a, h3.moved a, h4.moved a, h5.moved a, h6.moved a, h7.moved a, fun i hi => (h8 i hi).same hv.symm, h9.moved a, h10.moved a, NW_same hv h11⟩
/-- a method: its name, bytes, locals, result -/
abbrev XM : Type := MethodName × ByteArray × Nat × Option FieldType
abbrev Xws (M : XM) : List Cond := .code M.1 M.2.1 M.2.2.1 M.2.2.2 :: TB
abbrev Xrm (d mc ms : Nat) : Room := { frames := d, cells := mc, slots := ms, locals := 40 * d }
def Xpre (X : Xn) (w : va_W) (U : State) : Prop := va_P X.2.1 CLS w U.heap ∧ va_K X.2.1 CLS (Xtys X) U ∧ va_D (fun _ => True) w ∧ Xst X (va_A w U.heap.size) U U.heap
def Xpost (X : Xn) (A : Nat → Prop) (Q : Option Value → va_W → Prop) : Array Value → State → Outcome → State → Prop := fun _ st oc t => (∃ (v : Option Value) (w : va_W), oc = .returned v ∧ Q v w ∧ va_P X.2.1 CLS w t.heap ∧ va_D A w) ∧ va_F A st t
/-- THE CONTRACT: from any state that holds the world w, the method returns v with a world w' so that Q v w' -/
def Does (X : Xn) (d : Nat) (M : XM) (av : List Value) (w : va_W) (mc ms : Nat) (Q : Option Value → va_W → Prop) : Prop :=
  ∀ sz : Nat, Met X.1 M.1 (Xws M) (Xrm d mc ms) (va_Pc av (fun U => U.heap.size = sz ∧ Xpre X w U)) (Xpost X (va_A w sz) Q) mc ms (va_A w sz)
/-- locals by place -/
def Xhas (la : Array Slot) (n : Nat) (ls : List (Option Value)) : Prop := la.size = n ∧ lv_wf la ∧ ∀ (i : Nat) (v : Value), ls[i]? = some (some v) → la[i]? = some (.val v)
def Cx (X : Xn) (M : XM) (p : Program) (s : State) (m : MethodId) (args : Array Value) (meth : Method) (c : Code) (A : Nat → Prop) : Prop :=
  p.tables.exec = Jvm.exec ∧ c.code = M.2.1 ∧ c.maxLocals = M.2.2.1 ∧ meth.sig.returnType = M.2.2.2 ∧ (∀ q ∈ Xws M, q.before args s = true) ∧ s.vm.findClass M.1.cls = some m.cls ∧ meth.locks = false ∧ meth.name = M.1.name ∧ va_K X.2.1 CLS (Xtys X) s ∧ Xst X A s s.heap ∧ ∀ q, s.heap.size ≤ q → A q
def Ch (X : Xn) (s : State) (A : Nat → Prop) (H : Heap) (locs : List Loc) (w : va_W) : Prop := va_P X.2.1 CLS w H ∧ va_D A w ∧ va_S A s.heap H locs
/-- from here (place pc, locals ls, stack st, k cells of j slots made) the method comes to its end with Q -/
def Runs (X : Xn) (d : Nat) (M : XM) (mc ms : Nat) (Q : Option Value → va_W → Prop) (pc : Nat) (ls : List (Option Value)) (st : List Value) (k j : Nat) (w : va_W) : Prop :=
  ∀ (p : Program) (e : Env) (s : State) (m : MethodId) (args : Array Value) (below : List Frame) (meth : Method) (c : Code) (A : Nat → Prop) (H : Heap) (locs : List Loc) (la : Array Slot),
    Cx X M p s m args meth c A → Ch X s A H locs w → Xhas la M.2.2.1 ls → W p X.1 e (Xrm d mc ms) s m args below meth c H locs k j (MQ below (Xpost X A Q) args s mc ms A) (F0 m pc la st)
/-- what the rows below take at their end -/
theorem Does.of {X : Xn} {d : Nat} {M : XM} {av : List Value} {w : va_W} {mc ms : Nat} {Q : Option Value → va_W → Prop} (hpl : plainName M.1.cls = true) (hn : (lg_sl av).length ≤ M.2.2.1) (ls : List (Option Value)) (hls : ∀ (i : Nat) (v : Value), ls[i]? = some (some v) → (i, v) ∈ lv_args 0 av) (h : Runs X d M mc ms Q 0 ls [] 0 0 w) : Does X d M av w mc ms Q := by
  intro sz
  refine Met.ofW (cc := M.2.1) (maxL := M.2.2.1) (ret := M.2.2.2) hpl rfl ?_
  intro p e s m args below meth c s₁ B hml hv
  obtain ⟨rfl, hsz, hP, hK, hD0, hSt⟩ := hv
  subst hsz
  rw [lg_entry_eq]
  have hl := lv_entry av hn
  exact h p e s m _ below meth c (va_A w s.heap.size) s.heap [] _
    ⟨B.exec, B.bytes, hml, B.returns, atoms_spec (ws := Xws M) B.pre, findClass_of_methodNamed B.named, B.notSynchronized, (name_of_methodNamed B.named B.method).1, hK, hSt, fun q hq => Or.inr hq⟩
    ⟨hP, hD0.self, va_S.rf⟩ ⟨hl.1, hl.2.1, fun i v hi => hl.2.2 (i, v) (hls i v hi)⟩
theorem Runs.cast {X : Xn} {d : Nat} {M : XM} {mc ms : Nat} {Q : Option Value → va_W → Prop} {pc : Nat} {ls ls' : List (Option Value)} {st st' : List Value} {k j : Nat} {w w' : va_W} (h : Runs X d M mc ms Q pc ls' st' k j w') (h1 : ls = ls') (h2 : st = st') (h3 : w = w') : Runs X d M mc ms Q pc ls st k j w := by subst h1; subst h2; subst h3; exact h
/-- fewer locals are known -/
theorem Runs.less {X : Xn} {d : Nat} {M : XM} {mc ms : Nat} {Q : Option Value → va_W → Prop} {pc : Nat} {ls ls' : List (Option Value)} {st : List Value} {k j : Nat} {w : va_W} (h : Runs X d M mc ms Q pc ls' st k j w) (h1 : ∀ (i : Nat) (v : Value), ls'[i]? = some (some v) → ls[i]? = some (some v)) : Runs X d M mc ms Q pc ls st k j w :=
  fun p e s m args below meth c A H locs la C P L => h p e s m args below meth c A H locs la C P ⟨L.1, L.2.1, fun i v hi => L.2.2 i v (h1 i v hi)⟩
theorem Does.mono {X : Xn} {d : Nat} {M : XM} {av : List Value} {w : va_W} {mc ms : Nat} {Q Q' : Option Value → va_W → Prop} (h : Does X d M av w mc ms Q) (hq : ∀ v w', Q v w' → Q' v w') : Does X d M av w mc ms Q' := by
  intro sz p e a1 a2 a3 s m args below hf happ hP hK
  obtain ⟨k, o, h1, h2, h3, ⟨⟨v, w', hv, hQ, hr⟩, hF⟩, hL⟩ := h sz p e a1 a2 a3 s m args below hf happ hP hK
  exact ⟨k, o, h1, h2, h3, ⟨⟨v, w', hv, hq v w' hQ, hr⟩, hF⟩, hL⟩
end
section
/-! ROWS over Runs, by program -/
theorem r_iadd {X : Xn} {d : Nat} {M : XM} {mc ms : Nat} {Q : Option Value → va_W → Prop} {pc : Nat} {ls : List (Option Value)} {rest : List Value} {k j : Nat} {w : va_W} {x y : Int32} (pc2 : Nat) (hp : pc + 1 = pc2) (hd : decode M.2.1 pc = .ok (.iadd, 1)) (kk : Runs X d M mc ms Q pc2 ls (.int (x + y) :: rest) k j w) : Runs X d M mc ms Q pc ls (.int y :: .int x :: rest) k j w := by
  subst hp
  exact fun p e s m args below meth c A H locs la C P L => lv_iadd C.1 C.2.1 hd (kk p e s m args below meth c A H locs la C P L)
theorem r_isub {X : Xn} {d : Nat} {M : XM} {mc ms : Nat} {Q : Option Value → va_W → Prop} {pc : Nat} {ls : List (Option Value)} {rest : List Value} {k j : Nat} {w : va_W} {x y : Int32} (pc2 : Nat) (hp : pc + 1 = pc2) (hd : decode M.2.1 pc = .ok (.isub, 1)) (kk : Runs X d M mc ms Q pc2 ls (.int (x - y) :: rest) k j w) : Runs X d M mc ms Q pc ls (.int y :: .int x :: rest) k j w := by
  subst hp
  exact fun p e s m args below meth c A H locs la C P L => lv_isub C.1 C.2.1 hd (kk p e s m args below meth c A H locs la C P L)
theorem r_imul {X : Xn} {d : Nat} {M : XM} {mc ms : Nat} {Q : Option Value → va_W → Prop} {pc : Nat} {ls : List (Option Value)} {rest : List Value} {k j : Nat} {w : va_W} {x y : Int32} (pc2 : Nat) (hp : pc + 1 = pc2) (hd : decode M.2.1 pc = .ok (.imul, 1)) (kk : Runs X d M mc ms Q pc2 ls (.int (x * y) :: rest) k j w) : Runs X d M mc ms Q pc ls (.int y :: .int x :: rest) k j w := by
  subst hp
  exact fun p e s m args below meth c A H locs la C P L => lv_imul C.1 C.2.1 hd (kk p e s m args below meth c A H locs la C P L)
theorem r_iand {X : Xn} {d : Nat} {M : XM} {mc ms : Nat} {Q : Option Value → va_W → Prop} {pc : Nat} {ls : List (Option Value)} {rest : List Value} {k j : Nat} {w : va_W} {x y : Int32} (pc2 : Nat) (hp : pc + 1 = pc2) (hd : decode M.2.1 pc = .ok (.iand, 1)) (kk : Runs X d M mc ms Q pc2 ls (.int (x &&& y) :: rest) k j w) : Runs X d M mc ms Q pc ls (.int y :: .int x :: rest) k j w := by
  subst hp
  exact fun p e s m args below meth c A H locs la C P L => lv_iand C.1 C.2.1 hd (kk p e s m args below meth c A H locs la C P L)
theorem r_ior {X : Xn} {d : Nat} {M : XM} {mc ms : Nat} {Q : Option Value → va_W → Prop} {pc : Nat} {ls : List (Option Value)} {rest : List Value} {k j : Nat} {w : va_W} {x y : Int32} (pc2 : Nat) (hp : pc + 1 = pc2) (hd : decode M.2.1 pc = .ok (.ior, 1)) (kk : Runs X d M mc ms Q pc2 ls (.int (x ||| y) :: rest) k j w) : Runs X d M mc ms Q pc ls (.int y :: .int x :: rest) k j w := by
  subst hp
  exact fun p e s m args below meth c A H locs la C P L => lv_ior C.1 C.2.1 hd (kk p e s m args below meth c A H locs la C P L)
theorem r_ixor {X : Xn} {d : Nat} {M : XM} {mc ms : Nat} {Q : Option Value → va_W → Prop} {pc : Nat} {ls : List (Option Value)} {rest : List Value} {k j : Nat} {w : va_W} {x y : Int32} (pc2 : Nat) (hp : pc + 1 = pc2) (hd : decode M.2.1 pc = .ok (.ixor, 1)) (kk : Runs X d M mc ms Q pc2 ls (.int (x ^^^ y) :: rest) k j w) : Runs X d M mc ms Q pc ls (.int y :: .int x :: rest) k j w := by
  subst hp
  exact fun p e s m args below meth c A H locs la C P L => lv_ixor C.1 C.2.1 hd (kk p e s m args below meth c A H locs la C P L)
theorem r_ishl {X : Xn} {d : Nat} {M : XM} {mc ms : Nat} {Q : Option Value → va_W → Prop} {pc : Nat} {ls : List (Option Value)} {rest : List Value} {k j : Nat} {w : va_W} {x y : Int32} (pc2 : Nat) (hp : pc + 1 = pc2) (hd : decode M.2.1 pc = .ok (.ishl, 1)) (kk : Runs X d M mc ms Q pc2 ls (.int (x <<< (y &&& 31)) :: rest) k j w) : Runs X d M mc ms Q pc ls (.int y :: .int x :: rest) k j w := by
  subst hp
  exact fun p e s m args below meth c A H locs la C P L => lv_ishl C.1 C.2.1 hd (kk p e s m args below meth c A H locs la C P L)
theorem r_ishr {X : Xn} {d : Nat} {M : XM} {mc ms : Nat} {Q : Option Value → va_W → Prop} {pc : Nat} {ls : List (Option Value)} {rest : List Value} {k j : Nat} {w : va_W} {x y : Int32} (pc2 : Nat) (hp : pc + 1 = pc2) (hd : decode M.2.1 pc = .ok (.ishr, 1)) (kk : Runs X d M mc ms Q pc2 ls (.int (x >>> (y &&& 31)) :: rest) k j w) : Runs X d M mc ms Q pc ls (.int y :: .int x :: rest) k j w := by
  subst hp
  exact fun p e s m args below meth c A H locs la C P L => lv_ishr C.1 C.2.1 hd (kk p e s m args below meth c A H locs la C P L)
theorem r_iushr {X : Xn} {d : Nat} {M : XM} {mc ms : Nat} {Q : Option Value → va_W → Prop} {pc : Nat} {ls : List (Option Value)} {rest : List Value} {k j : Nat} {w : va_W} {x y : Int32} (pc2 : Nat) (hp : pc + 1 = pc2) (hd : decode M.2.1 pc = .ok (.iushr, 1)) (kk : Runs X d M mc ms Q pc2 ls (.int ((x.toUInt32 >>> (y.toUInt32 &&& Int32.toUInt32 31)).toInt32) :: rest) k j w) : Runs X d M mc ms Q pc ls (.int y :: .int x :: rest) k j w := by
  subst hp
  exact fun p e s m args below meth c A H locs la C P L => lv_iushr C.1 C.2.1 hd rfl (kk p e s m args below meth c A H locs la C P L)
theorem r_idiv {X : Xn} {d : Nat} {M : XM} {mc ms : Nat} {Q : Option Value → va_W → Prop} {pc : Nat} {ls : List (Option Value)} {rest : List Value} {k j : Nat} {w : va_W} {x y : Int32} (hne : ¬ y = 0) (pc2 : Nat) (hp : pc + 1 = pc2) (hd : decode M.2.1 pc = .ok (.idiv, 1)) (kk : Runs X d M mc ms Q pc2 ls (.int (x / y) :: rest) k j w) : Runs X d M mc ms Q pc ls (.int y :: .int x :: rest) k j w := by
  subst hp
  exact fun p e s m args below meth c A H locs la C P L => lv_idiv C.1 C.2.1 hd hne (kk p e s m args below meth c A H locs la C P L)
theorem r_irem {X : Xn} {d : Nat} {M : XM} {mc ms : Nat} {Q : Option Value → va_W → Prop} {pc : Nat} {ls : List (Option Value)} {rest : List Value} {k j : Nat} {w : va_W} {x y : Int32} (hne : ¬ y = 0) (pc2 : Nat) (hp : pc + 1 = pc2) (hd : decode M.2.1 pc = .ok (.irem, 1)) (kk : Runs X d M mc ms Q pc2 ls (.int (x - x / y * y) :: rest) k j w) : Runs X d M mc ms Q pc ls (.int y :: .int x :: rest) k j w := by
  subst hp
  exact fun p e s m args below meth c A H locs la C P L => lv_irem C.1 C.2.1 hd hne (kk p e s m args below meth c A H locs la C P L)
theorem r_ineg {X : Xn} {d : Nat} {M : XM} {mc ms : Nat} {Q : Option Value → va_W → Prop} {pc : Nat} {ls : List (Option Value)} {rest : List Value} {k j : Nat} {w : va_W} {x : Int32} (pc2 : Nat) (hp : pc + 1 = pc2) (hd : decode M.2.1 pc = .ok (.ineg, 1)) (kk : Runs X d M mc ms Q pc2 ls (.int (-x) :: rest) k j w) : Runs X d M mc ms Q pc ls (.int x :: rest) k j w := by
  subst hp
  exact fun p e s m args below meth c A H locs la C P L => lv_ineg C.1 C.2.1 hd (kk p e s m args below meth c A H locs la C P L)
theorem r_ladd {X : Xn} {d : Nat} {M : XM} {mc ms : Nat} {Q : Option Value → va_W → Prop} {pc : Nat} {ls : List (Option Value)} {rest : List Value} {k j : Nat} {w : va_W} {x y : Int64} (pc2 : Nat) (hp : pc + 1 = pc2) (hd : decode M.2.1 pc = .ok (.ladd, 1)) (kk : Runs X d M mc ms Q pc2 ls (.long (x + y) :: rest) k j w) : Runs X d M mc ms Q pc ls (.long y :: .long x :: rest) k j w := by
  subst hp
  exact fun p e s m args below meth c A H locs la C P L => lv_ladd C.1 C.2.1 hd (kk p e s m args below meth c A H locs la C P L)
theorem r_land {X : Xn} {d : Nat} {M : XM} {mc ms : Nat} {Q : Option Value → va_W → Prop} {pc : Nat} {ls : List (Option Value)} {rest : List Value} {k j : Nat} {w : va_W} {x y : Int64} (pc2 : Nat) (hp : pc + 1 = pc2) (hd : decode M.2.1 pc = .ok (.land, 1)) (kk : Runs X d M mc ms Q pc2 ls (.long (x &&& y) :: rest) k j w) : Runs X d M mc ms Q pc ls (.long y :: .long x :: rest) k j w := by
  subst hp
  exact fun p e s m args below meth c A H locs la C P L => lv_land C.1 C.2.1 hd (kk p e s m args below meth c A H locs la C P L)
theorem r_lor {X : Xn} {d : Nat} {M : XM} {mc ms : Nat} {Q : Option Value → va_W → Prop} {pc : Nat} {ls : List (Option Value)} {rest : List Value} {k j : Nat} {w : va_W} {x y : Int64} (pc2 : Nat) (hp : pc + 1 = pc2) (hd : decode M.2.1 pc = .ok (.lor, 1)) (kk : Runs X d M mc ms Q pc2 ls (.long (x ||| y) :: rest) k j w) : Runs X d M mc ms Q pc ls (.long y :: .long x :: rest) k j w := by
  subst hp
  exact fun p e s m args below meth c A H locs la C P L => lv_lor C.1 C.2.1 hd (kk p e s m args below meth c A H locs la C P L)
theorem r_lcmp {X : Xn} {d : Nat} {M : XM} {mc ms : Nat} {Q : Option Value → va_W → Prop} {pc : Nat} {ls : List (Option Value)} {rest : List Value} {k j : Nat} {w : va_W} {x y : Int64} (pc2 : Nat) (hp : pc + 1 = pc2) (hd : decode M.2.1 pc = .ok (.lcmp, 1)) (kk : Runs X d M mc ms Q pc2 ls (.int (lg_cmp x y) :: rest) k j w) : Runs X d M mc ms Q pc ls (.long y :: .long x :: rest) k j w := by
  subst hp
  exact fun p e s m args below meth c A H locs la C P L => W.lcmp C.1 C.2.1 hd (kk p e s m args below meth c A H locs la C P L)
theorem r_lshl {X : Xn} {d : Nat} {M : XM} {mc ms : Nat} {Q : Option Value → va_W → Prop} {pc : Nat} {ls : List (Option Value)} {rest : List Value} {k j : Nat} {w : va_W} {x : Int64} {y : Int32} (pc2 : Nat) (hp : pc + 1 = pc2) (hd : decode M.2.1 pc = .ok (.lshl, 1)) (kk : Runs X d M mc ms Q pc2 ls (.long (x <<< (y.toInt64 &&& 63)) :: rest) k j w) : Runs X d M mc ms Q pc ls (.int y :: .long x :: rest) k j w := by
  subst hp
  exact fun p e s m args below meth c A H locs la C P L => lv_lshl C.1 C.2.1 hd rfl (kk p e s m args below meth c A H locs la C P L)
theorem r_i2l {X : Xn} {d : Nat} {M : XM} {mc ms : Nat} {Q : Option Value → va_W → Prop} {pc : Nat} {ls : List (Option Value)} {rest : List Value} {k j : Nat} {w : va_W} {x : Int32} (pc2 : Nat) (hp : pc + 1 = pc2) (hd : decode M.2.1 pc = .ok (.i2l, 1)) (kk : Runs X d M mc ms Q pc2 ls (.long x.toInt64 :: rest) k j w) : Runs X d M mc ms Q pc ls (.int x :: rest) k j w := by
  subst hp
  exact fun p e s m args below meth c A H locs la C P L => lv_i2l C.1 C.2.1 hd rfl (kk p e s m args below meth c A H locs la C P L)
theorem r_l2i {X : Xn} {d : Nat} {M : XM} {mc ms : Nat} {Q : Option Value → va_W → Prop} {pc : Nat} {ls : List (Option Value)} {rest : List Value} {k j : Nat} {w : va_W} {x : Int64} (pc2 : Nat) (hp : pc + 1 = pc2) (hd : decode M.2.1 pc = .ok (.l2i, 1)) (kk : Runs X d M mc ms Q pc2 ls (.int x.toInt32 :: rest) k j w) : Runs X d M mc ms Q pc ls (.long x :: rest) k j w := by
  subst hp
  exact fun p e s m args below meth c A H locs la C P L => lv_l2i C.1 C.2.1 hd rfl (kk p e s m args below meth c A H locs la C P L)
theorem r_i2b {X : Xn} {d : Nat} {M : XM} {mc ms : Nat} {Q : Option Value → va_W → Prop} {pc : Nat} {ls : List (Option Value)} {rest : List Value} {k j : Nat} {w : va_W} {x : Int32} (pc2 : Nat) (hp : pc + 1 = pc2) (hd : decode M.2.1 pc = .ok (.i2b, 1)) (kk : Runs X d M mc ms Q pc2 ls (.int x.toInt8.toInt32 :: rest) k j w) : Runs X d M mc ms Q pc ls (.int x :: rest) k j w := by
  subst hp
  exact fun p e s m args below meth c A H locs la C P L => lv_i2b C.1 C.2.1 hd rfl (kk p e s m args below meth c A H locs la C P L)
theorem r_i2s {X : Xn} {d : Nat} {M : XM} {mc ms : Nat} {Q : Option Value → va_W → Prop} {pc : Nat} {ls : List (Option Value)} {rest : List Value} {k j : Nat} {w : va_W} {x : Int32} (pc2 : Nat) (hp : pc + 1 = pc2) (hd : decode M.2.1 pc = .ok (.i2s, 1)) (kk : Runs X d M mc ms Q pc2 ls (.int x.toInt16.toInt32 :: rest) k j w) : Runs X d M mc ms Q pc ls (.int x :: rest) k j w := by
  subst hp
  exact fun p e s m args below meth c A H locs la C P L => lv_i2s C.1 C.2.1 hd rfl (kk p e s m args below meth c A H locs la C P L)
theorem r_i2c {X : Xn} {d : Nat} {M : XM} {mc ms : Nat} {Q : Option Value → va_W → Prop} {pc : Nat} {ls : List (Option Value)} {rest : List Value} {k j : Nat} {w : va_W} {x : Int32} (pc2 : Nat) (hp : pc + 1 = pc2) (hd : decode M.2.1 pc = .ok (.i2c, 1)) (kk : Runs X d M mc ms Q pc2 ls (.int ((x.toUInt32 % 65536).toInt32) :: rest) k j w) : Runs X d M mc ms Q pc ls (.int x :: rest) k j w := by
  subst hp
  exact fun p e s m args below meth c A H locs la C P L => lv_i2c C.1 C.2.1 hd rfl (kk p e s m args below meth c A H locs la C P L)
theorem r_iconst {X : Xn} {d : Nat} {M : XM} {mc ms : Nat} {Q : Option Value → va_W → Prop} {pc : Nat} {ls : List (Option Value)} {rest : List Value} {k j : Nat} {w : va_W} {n : Int} (v : Int32) (hv : Int32.ofInt n = v) (pc2 : Nat) (hp : pc + 1 = pc2) (hd : decode M.2.1 pc = .ok (.iconst n, 1)) (kk : Runs X d M mc ms Q pc2 ls (.int v :: rest) k j w) : Runs X d M mc ms Q pc ls rest k j w := by
  subst hp
  exact fun p e s m args below meth c A H locs la C P L => lv_iconst C.1 C.2.1 hd hv (kk p e s m args below meth c A H locs la C P L)
theorem r_bipush {X : Xn} {d : Nat} {M : XM} {mc ms : Nat} {Q : Option Value → va_W → Prop} {pc : Nat} {ls : List (Option Value)} {rest : List Value} {k j : Nat} {w : va_W} {n : Int} (v : Int32) (hv : (Int8.ofInt n).toInt32 = v) (pc2 : Nat) (hp : pc + 2 = pc2) (hd : decode M.2.1 pc = .ok (.bipush n, 2)) (kk : Runs X d M mc ms Q pc2 ls (.int v :: rest) k j w) : Runs X d M mc ms Q pc ls rest k j w := by
  subst hp
  exact fun p e s m args below meth c A H locs la C P L => lv_bipush C.1 C.2.1 hd hv (kk p e s m args below meth c A H locs la C P L)
theorem r_sipush {X : Xn} {d : Nat} {M : XM} {mc ms : Nat} {Q : Option Value → va_W → Prop} {pc : Nat} {ls : List (Option Value)} {rest : List Value} {k j : Nat} {w : va_W} {n : Int} (v : Int32) (hv : (Int16.ofInt n).toInt32 = v) (pc2 : Nat) (hp : pc + 3 = pc2) (hd : decode M.2.1 pc = .ok (.sipush n, 3)) (kk : Runs X d M mc ms Q pc2 ls (.int v :: rest) k j w) : Runs X d M mc ms Q pc ls rest k j w := by
  subst hp
  exact fun p e s m args below meth c A H locs la C P L => lv_sipush C.1 C.2.1 hd hv (kk p e s m args below meth c A H locs la C P L)
theorem r_lconst {X : Xn} {d : Nat} {M : XM} {mc ms : Nat} {Q : Option Value → va_W → Prop} {pc : Nat} {ls : List (Option Value)} {rest : List Value} {k j : Nat} {w : va_W} {n : Fin 2} (v : Int64) (hv : Int64.ofNat (n : Nat) = v) (pc2 : Nat) (hp : pc + 1 = pc2) (hd : decode M.2.1 pc = .ok (.lconst n, 1)) (kk : Runs X d M mc ms Q pc2 ls (.long v :: rest) k j w) : Runs X d M mc ms Q pc ls rest k j w := by
  subst hp
  exact fun p e s m args below meth c A H locs la C P L => lv_lconst C.1 C.2.1 hd hv (kk p e s m args below meth c A H locs la C P L)
theorem r_null {X : Xn} {d : Nat} {M : XM} {mc ms : Nat} {Q : Option Value → va_W → Prop} {pc : Nat} {ls : List (Option Value)} {rest : List Value} {k j : Nat} {w : va_W}  (pc2 : Nat) (hp : pc + 1 = pc2) (hd : decode M.2.1 pc = .ok (.aconst_null, 1)) (kk : Runs X d M mc ms Q pc2 ls (.null :: rest) k j w) : Runs X d M mc ms Q pc ls rest k j w := by
  subst hp
  exact fun p e s m args below meth c A H locs la C P L => lv_null C.1 C.2.1 hd (kk p e s m args below meth c A H locs la C P L)
theorem r_dup {X : Xn} {d : Nat} {M : XM} {mc ms : Nat} {Q : Option Value → va_W → Prop} {pc : Nat} {ls : List (Option Value)} {rest : List Value} {k j : Nat} {w : va_W} {va : Value} (h1 : va.category = 1) (pc2 : Nat) (hp : pc + 1 = pc2) (hd : decode M.2.1 pc = .ok (.dup, 1)) (kk : Runs X d M mc ms Q pc2 ls (va :: va :: rest) k j w) : Runs X d M mc ms Q pc ls (va :: rest) k j w := by
  subst hp
  exact fun p e s m args below meth c A H locs la C P L => lv_dup C.1 C.2.1 hd h1 (kk p e s m args below meth c A H locs la C P L)
theorem r_pop {X : Xn} {d : Nat} {M : XM} {mc ms : Nat} {Q : Option Value → va_W → Prop} {pc : Nat} {ls : List (Option Value)} {rest : List Value} {k j : Nat} {w : va_W} {va : Value} (h1 : va.category = 1) (pc2 : Nat) (hp : pc + 1 = pc2) (hd : decode M.2.1 pc = .ok (.pop, 1)) (kk : Runs X d M mc ms Q pc2 ls rest k j w) : Runs X d M mc ms Q pc ls (va :: rest) k j w := by
  subst hp
  exact fun p e s m args below meth c A H locs la C P L => lv_pop C.1 C.2.1 hd h1 (kk p e s m args below meth c A H locs la C P L)
theorem r_dup_x1 {X : Xn} {d : Nat} {M : XM} {mc ms : Nat} {Q : Option Value → va_W → Prop} {pc : Nat} {ls : List (Option Value)} {rest : List Value} {k j : Nat} {w : va_W} {va vb : Value} (h1 : va.category = 1) (h2 : vb.category = 1) (pc2 : Nat) (hp : pc + 1 = pc2) (hd : decode M.2.1 pc = .ok (.dup_x1, 1)) (kk : Runs X d M mc ms Q pc2 ls (va :: vb :: va :: rest) k j w) : Runs X d M mc ms Q pc ls (va :: vb :: rest) k j w := by
  subst hp
  exact fun p e s m args below meth c A H locs la C P L => lv_dup_x1 C.1 C.2.1 hd h1 h2 (kk p e s m args below meth c A H locs la C P L)
theorem r_dup2 {X : Xn} {d : Nat} {M : XM} {mc ms : Nat} {Q : Option Value → va_W → Prop} {pc : Nat} {ls : List (Option Value)} {rest : List Value} {k j : Nat} {w : va_W} {va vb : Value} (h1 : va.category = 1) (h2 : vb.category = 1) (pc2 : Nat) (hp : pc + 1 = pc2) (hd : decode M.2.1 pc = .ok (.dup2, 1)) (kk : Runs X d M mc ms Q pc2 ls (va :: vb :: va :: vb :: rest) k j w) : Runs X d M mc ms Q pc ls (va :: vb :: rest) k j w := by
  subst hp
  exact fun p e s m args below meth c A H locs la C P L => lv_dup2_11 C.1 C.2.1 hd h1 h2 (kk p e s m args below meth c A H locs la C P L)
theorem r_ldc {X : Xn} {d : Nat} {M : XM} {mc ms : Nat} {Q : Option Value → va_W → Prop} {pc : Nat} {ls : List (Option Value)} {rest : List Value} {k j : Nat} {w : va_W} {index : Nat} {v : Int32} (hc : Cond.constant M.1.cls index v ∈ TB) (pc2 : Nat) (hp : pc + 2 = pc2) (hd : decode M.2.1 pc = .ok (.ldc index, 2)) (kk : Runs X d M mc ms Q pc2 ls (.int v :: rest) k j w) : Runs X d M mc ms Q pc ls rest k j w := by
  subst hp
  exact fun p e s m args below meth c A H locs la C P L => lv_ldc C.1 C.2.1 C.2.2.2.2.2.1 (C.2.2.2.2.1 _ (List.mem_cons_of_mem _ hc)) hd (kk p e s m args below meth c A H locs la C P L)
theorem r_ldc2 {X : Xn} {d : Nat} {M : XM} {mc ms : Nat} {Q : Option Value → va_W → Prop} {pc : Nat} {ls : List (Option Value)} {rest : List Value} {k j : Nat} {w : va_W} {index : Nat} {v : Int64} (hc : Cond.constantLong M.1.cls index v ∈ TB) (pc2 : Nat) (hp : pc + 3 = pc2) (hd : decode M.2.1 pc = .ok (.ldc2_w index, 3)) (kk : Runs X d M mc ms Q pc2 ls (.long v :: rest) k j w) : Runs X d M mc ms Q pc ls rest k j w := by
  subst hp
  exact fun p e s m args below meth c A H locs la C P L => lv_ldc2 C.1 C.2.1 C.2.2.2.2.2.1 (C.2.2.2.2.1 _ (List.mem_cons_of_mem _ hc)) hd (kk p e s m args below meth c A H locs la C P L)
theorem r_iload_n {X : Xn} {d : Nat} {M : XM} {mc ms : Nat} {Q : Option Value → va_W → Prop} {pc : Nat} {ls : List (Option Value)} {rest : List Value} {k j : Nat} {w : va_W} {q : Fin 4} {x : Int32} (hl : ls[(q : Nat)]? = some (some (.int x))) (pc2 : Nat) (hp : pc + 1 = pc2) (hd : decode M.2.1 pc = .ok (.iload_n q, 1)) (kk : Runs X d M mc ms Q pc2 ls (.int x :: rest) k j w) : Runs X d M mc ms Q pc ls rest k j w := by
  subst hp
  exact fun p e s m args below meth c A H locs la C P L => lv_iload_n C.1 C.2.1 hd rfl (L.2.2 _ _ hl) (kk p e s m args below meth c A H locs la C P L)
theorem r_iload {X : Xn} {d : Nat} {M : XM} {mc ms : Nat} {Q : Option Value → va_W → Prop} {pc : Nat} {ls : List (Option Value)} {rest : List Value} {k j : Nat} {w : va_W} {i : Nat} {x : Int32} (hl : ls[i]? = some (some (.int x))) (pc2 : Nat) (hp : pc + 2 = pc2) (hd : decode M.2.1 pc = .ok (.iload i, 2)) (kk : Runs X d M mc ms Q pc2 ls (.int x :: rest) k j w) : Runs X d M mc ms Q pc ls rest k j w := by
  subst hp
  exact fun p e s m args below meth c A H locs la C P L => lv_iload C.1 C.2.1 hd (L.2.2 _ _ hl) (kk p e s m args below meth c A H locs la C P L)
theorem r_lload_n {X : Xn} {d : Nat} {M : XM} {mc ms : Nat} {Q : Option Value → va_W → Prop} {pc : Nat} {ls : List (Option Value)} {rest : List Value} {k j : Nat} {w : va_W} {q : Fin 4} {x : Int64} (hl : ls[(q : Nat)]? = some (some (.long x))) (pc2 : Nat) (hp : pc + 1 = pc2) (hd : decode M.2.1 pc = .ok (.lload_n q, 1)) (kk : Runs X d M mc ms Q pc2 ls (.long x :: rest) k j w) : Runs X d M mc ms Q pc ls rest k j w := by
  subst hp
  exact fun p e s m args below meth c A H locs la C P L => lv_lload_n C.1 C.2.1 hd rfl (L.2.2 _ _ hl) (kk p e s m args below meth c A H locs la C P L)
theorem r_lload {X : Xn} {d : Nat} {M : XM} {mc ms : Nat} {Q : Option Value → va_W → Prop} {pc : Nat} {ls : List (Option Value)} {rest : List Value} {k j : Nat} {w : va_W} {i : Nat} {x : Int64} (hl : ls[i]? = some (some (.long x))) (pc2 : Nat) (hp : pc + 2 = pc2) (hd : decode M.2.1 pc = .ok (.lload i, 2)) (kk : Runs X d M mc ms Q pc2 ls (.long x :: rest) k j w) : Runs X d M mc ms Q pc ls rest k j w := by
  subst hp
  exact fun p e s m args below meth c A H locs la C P L => lv_lload C.1 C.2.1 hd (L.2.2 _ _ hl) (kk p e s m args below meth c A H locs la C P L)
theorem r_aload_n {X : Xn} {d : Nat} {M : XM} {mc ms : Nat} {Q : Option Value → va_W → Prop} {pc : Nat} {ls : List (Option Value)} {rest : List Value} {k j : Nat} {w : va_W} {q : Fin 4} {x : Nat} (hl : ls[(q : Nat)]? = some (some (.ref x))) (pc2 : Nat) (hp : pc + 1 = pc2) (hd : decode M.2.1 pc = .ok (.aload_n q, 1)) (kk : Runs X d M mc ms Q pc2 ls (.ref x :: rest) k j w) : Runs X d M mc ms Q pc ls rest k j w := by
  subst hp
  exact fun p e s m args below meth c A H locs la C P L => lv_aload_n C.1 C.2.1 hd rfl (L.2.2 _ _ hl) (kk p e s m args below meth c A H locs la C P L)
theorem r_aload {X : Xn} {d : Nat} {M : XM} {mc ms : Nat} {Q : Option Value → va_W → Prop} {pc : Nat} {ls : List (Option Value)} {rest : List Value} {k j : Nat} {w : va_W} {i : Nat} {x : Nat} (hl : ls[i]? = some (some (.ref x))) (pc2 : Nat) (hp : pc + 2 = pc2) (hd : decode M.2.1 pc = .ok (.aload i, 2)) (kk : Runs X d M mc ms Q pc2 ls (.ref x :: rest) k j w) : Runs X d M mc ms Q pc ls rest k j w := by
  subst hp
  exact fun p e s m args below meth c A H locs la C P L => lv_aload C.1 C.2.1 hd (L.2.2 _ _ hl) (kk p e s m args below meth c A H locs la C P L)
theorem r_aload_nN {X : Xn} {d : Nat} {M : XM} {mc ms : Nat} {Q : Option Value → va_W → Prop} {pc : Nat} {ls : List (Option Value)} {rest : List Value} {k j : Nat} {w : va_W} {q : Fin 4} (hl : ls[(q : Nat)]? = some (some .null)) (pc2 : Nat) (hp : pc + 1 = pc2) (hd : decode M.2.1 pc = .ok (.aload_n q, 1)) (kk : Runs X d M mc ms Q pc2 ls (.null :: rest) k j w) : Runs X d M mc ms Q pc ls rest k j w := by
  subst hp
  exact fun p e s m args below meth c A H locs la C P L => lv_aload_nN C.1 C.2.1 hd rfl (L.2.2 _ _ hl) (kk p e s m args below meth c A H locs la C P L)
theorem r_aloadN {X : Xn} {d : Nat} {M : XM} {mc ms : Nat} {Q : Option Value → va_W → Prop} {pc : Nat} {ls : List (Option Value)} {rest : List Value} {k j : Nat} {w : va_W} {i : Nat} (hl : ls[i]? = some (some .null)) (pc2 : Nat) (hp : pc + 2 = pc2) (hd : decode M.2.1 pc = .ok (.aload i, 2)) (kk : Runs X d M mc ms Q pc2 ls (.null :: rest) k j w) : Runs X d M mc ms Q pc ls rest k j w := by
  subst hp
  exact fun p e s m args below meth c A H locs la C P L => lv_aloadN C.1 C.2.1 hd (L.2.2 _ _ hl) (kk p e s m args below meth c A H locs la C P L)
/-- the locals as pairs -/
def Xl (ls : List (Option Value)) : List (Nat × Value) := (List.range ls.length).filterMap (fun i => match ls[i]? with | some (some v) => some (i, v) | _ => none)
theorem Xl_mem {ls : List (Option Value)} {i : Nat} {v : Value} (h : ls[i]? = some (some v)) : (i, v) ∈ Xl ls := by
  refine List.mem_filterMap.mpr ⟨i, List.mem_range.mpr (List.getElem?_eq_some_iff.mp h).1, ?_⟩
  simp only [h]
theorem Xl_of {ls : List (Option Value)} {q : Nat × Value} (h : q ∈ Xl ls) : ls[q.1]? = some (some q.2) := by
  obtain ⟨i, -, hi⟩ := List.mem_filterMap.mp h
  cases hc : ls[i]? with
  | none => simp [hc] at hi
  | some o =>
    cases o with
    | none => simp [hc] at hi
    | some v =>
      simp only [hc, Option.some.injEq] at hi
      rw [← hi]; exact hc
theorem Xhas.lv {la : Array Slot} {n : Nat} {ls : List (Option Value)} (h : Xhas la n ls) : lv_has la n (Xl ls) := ⟨h.1, h.2.1, fun q hq => h.2.2 _ _ (Xl_of hq)⟩
/-- no long ends at i -/
def okS (ls : List (Option Value)) (i : Nat) : Bool := match i with
  | 0 => true
  | i + 1 => match ls[i]? with
    | some (some v) => v.category == 1
    | _ => true
theorem okS_of {ls : List (Option Value)} {i jj : Nat} {v : Value} (h : okS ls i = true) (hj : jj + 1 = i) (hv : ls[jj]? = some (some v)) : (v.category == 2) = false := by
  subst hj
  simp only [okS, hv, beq_iff_eq] at h
  rw [h]; rfl
theorem Xhas_set1 {la : Array Slot} {n i : Nat} {ls : List (Option Value)} {v : Value} (ok : okS ls i = true) (h : lv_has la n ((i, v) :: (Xl ls).filter (fun q => !(q.1 == i) && !(q.1 + 1 == i && q.2.category == 2)))) : Xhas la n (ls.set i (some v)) := by
  refine ⟨h.1, h.2.1, fun a b hab => ?_⟩
  by_cases ha : a = i
  · subst ha
    by_cases hl : a < ls.length
    · rw [List.getElem?_set_self hl] at hab
      cases hab
      exact h.2.2 _ List.mem_cons_self
    · rw [List.getElem?_eq_none (by rw [List.length_set]; omega)] at hab
      cases hab
  · rw [List.getElem?_set_ne (Ne.symm ha)] at hab
    refine h.2.2 (a, b) (List.mem_cons_of_mem _ (List.mem_filter.mpr ⟨Xl_mem hab, ?_⟩))
    by_cases hc : a + 1 = i
    · simp [ha, okS_of ok hc hab, hc]
    · simp [ha, hc]
theorem Xhas_set2 {la : Array Slot} {n i : Nat} {ls : List (Option Value)} {v : Value} (ok : okS ls i = true) (h : lv_has la n ((i, v) :: (Xl ls).filter (fun q => !(q.1 == i) && (!(q.1 == i + 1) && !(q.1 + 1 == i && q.2.category == 2))))) : Xhas la n ((ls.set i (some v)).set (i + 1) none) := by
  refine ⟨h.1, h.2.1, fun a b hab => ?_⟩
  by_cases h1 : a = i + 1
  · subst h1
    by_cases hl : i + 1 < (ls.set i (some v)).length
    · rw [List.getElem?_set_self hl] at hab
      cases hab
    · rw [List.getElem?_eq_none (by rw [List.length_set]; omega)] at hab
      cases hab
  · rw [List.getElem?_set_ne (Ne.symm h1)] at hab
    by_cases ha : a = i
    · subst ha
      by_cases hl : a < ls.length
      · rw [List.getElem?_set_self hl] at hab
        cases hab
        exact h.2.2 _ List.mem_cons_self
      · rw [List.getElem?_eq_none (by rw [List.length_set]; omega)] at hab
        cases hab
    · rw [List.getElem?_set_ne (Ne.symm ha)] at hab
      refine h.2.2 (a, b) (List.mem_cons_of_mem _ (List.mem_filter.mpr ⟨Xl_mem hab, ?_⟩))
      by_cases hc : a + 1 = i
      · simp [ha, h1, okS_of ok hc hab, hc]
      · simp [ha, h1, hc]
theorem r_istore_n {X : Xn} {d : Nat} {M : XM} {mc ms : Nat} {Q : Option Value → va_W → Prop} {pc : Nat} {ls : List (Option Value)} {rest : List Value} {k j : Nat} {w : va_W} {q : Fin 4} {x : Int32} {ls2 : List (Option Value)} (pc2 : Nat) (hp : pc + 1 = pc2) (hd : decode M.2.1 pc = .ok (.istore_n q, 1)) (hn : (q : Nat) < M.2.2.1) (ok : okS ls (q : Nat) = true) (hls : (ls.set (q : Nat) (some (.int x))) = ls2) (kk : Runs X d M mc ms Q pc2 ls2 rest k j w) : Runs X d M mc ms Q pc ls ((.int x) :: rest) k j w := by
  subst hp; subst hls
  exact fun p e s m args below meth c A H locs la C P L => lv_istore_n C.1 C.2.1 hd rfl L.lv hn rfl (fun la2 h2 => kk p e s m args below meth c A H locs la2 C P (Xhas_set1 ok h2))
theorem r_istore {X : Xn} {d : Nat} {M : XM} {mc ms : Nat} {Q : Option Value → va_W → Prop} {pc : Nat} {ls : List (Option Value)} {rest : List Value} {k j : Nat} {w : va_W} {i : Nat} {x : Int32} {ls2 : List (Option Value)} (pc2 : Nat) (hp : pc + 2 = pc2) (hd : decode M.2.1 pc = .ok (.istore i, 2)) (hn : i < M.2.2.1) (ok : okS ls i = true) (hls : (ls.set i (some (.int x))) = ls2) (kk : Runs X d M mc ms Q pc2 ls2 rest k j w) : Runs X d M mc ms Q pc ls ((.int x) :: rest) k j w := by
  subst hp; subst hls
  exact fun p e s m args below meth c A H locs la C P L => lv_istore C.1 C.2.1 hd L.lv hn rfl (fun la2 h2 => kk p e s m args below meth c A H locs la2 C P (Xhas_set1 ok h2))
theorem r_astore_n {X : Xn} {d : Nat} {M : XM} {mc ms : Nat} {Q : Option Value → va_W → Prop} {pc : Nat} {ls : List (Option Value)} {rest : List Value} {k j : Nat} {w : va_W} {q : Fin 4} {x : Nat} {ls2 : List (Option Value)} (pc2 : Nat) (hp : pc + 1 = pc2) (hd : decode M.2.1 pc = .ok (.astore_n q, 1)) (hn : (q : Nat) < M.2.2.1) (ok : okS ls (q : Nat) = true) (hls : (ls.set (q : Nat) (some (.ref x))) = ls2) (kk : Runs X d M mc ms Q pc2 ls2 rest k j w) : Runs X d M mc ms Q pc ls ((.ref x) :: rest) k j w := by
  subst hp; subst hls
  exact fun p e s m args below meth c A H locs la C P L => lv_astore_n C.1 C.2.1 hd rfl L.lv hn rfl (fun la2 h2 => kk p e s m args below meth c A H locs la2 C P (Xhas_set1 ok h2))
theorem r_astore {X : Xn} {d : Nat} {M : XM} {mc ms : Nat} {Q : Option Value → va_W → Prop} {pc : Nat} {ls : List (Option Value)} {rest : List Value} {k j : Nat} {w : va_W} {i : Nat} {x : Nat} {ls2 : List (Option Value)} (pc2 : Nat) (hp : pc + 2 = pc2) (hd : decode M.2.1 pc = .ok (.astore i, 2)) (hn : i < M.2.2.1) (ok : okS ls i = true) (hls : (ls.set i (some (.ref x))) = ls2) (kk : Runs X d M mc ms Q pc2 ls2 rest k j w) : Runs X d M mc ms Q pc ls ((.ref x) :: rest) k j w := by
  subst hp; subst hls
  exact fun p e s m args below meth c A H locs la C P L => lv_astore C.1 C.2.1 hd L.lv hn rfl (fun la2 h2 => kk p e s m args below meth c A H locs la2 C P (Xhas_set1 ok h2))
theorem r_lstore_n {X : Xn} {d : Nat} {M : XM} {mc ms : Nat} {Q : Option Value → va_W → Prop} {pc : Nat} {ls : List (Option Value)} {rest : List Value} {k j : Nat} {w : va_W} {q : Fin 4} {x : Int64} {ls2 : List (Option Value)} (pc2 : Nat) (hp : pc + 1 = pc2) (hd : decode M.2.1 pc = .ok (.lstore_n q, 1)) (hn : (q : Nat) + 1 < M.2.2.1) (ok : okS ls (q : Nat) = true) (hls : ((ls.set (q : Nat) (some (.long x))).set ((q : Nat) + 1) none) = ls2) (kk : Runs X d M mc ms Q pc2 ls2 rest k j w) : Runs X d M mc ms Q pc ls ((.long x) :: rest) k j w := by
  subst hp; subst hls
  exact fun p e s m args below meth c A H locs la C P L => lv_lstore_n C.1 C.2.1 hd rfl L.lv hn rfl (fun la2 h2 => kk p e s m args below meth c A H locs la2 C P (Xhas_set2 ok h2))
theorem r_lstore {X : Xn} {d : Nat} {M : XM} {mc ms : Nat} {Q : Option Value → va_W → Prop} {pc : Nat} {ls : List (Option Value)} {rest : List Value} {k j : Nat} {w : va_W} {i : Nat} {x : Int64} {ls2 : List (Option Value)} (pc2 : Nat) (hp : pc + 2 = pc2) (hd : decode M.2.1 pc = .ok (.lstore i, 2)) (hn : i + 1 < M.2.2.1) (ok : okS ls i = true) (hls : ((ls.set i (some (.long x))).set (i + 1) none) = ls2) (kk : Runs X d M mc ms Q pc2 ls2 rest k j w) : Runs X d M mc ms Q pc ls ((.long x) :: rest) k j w := by
  subst hp; subst hls
  exact fun p e s m args below meth c A H locs la C P L => lv_lstore C.1 C.2.1 hd L.lv hn rfl (fun la2 h2 => kk p e s m args below meth c A H locs la2 C P (Xhas_set2 ok h2))
theorem r_astore_nN {X : Xn} {d : Nat} {M : XM} {mc ms : Nat} {Q : Option Value → va_W → Prop} {pc : Nat} {ls : List (Option Value)} {rest : List Value} {k j : Nat} {w : va_W} {q : Fin 4} {ls2 : List (Option Value)} (pc2 : Nat) (hp : pc + 1 = pc2) (hd : decode M.2.1 pc = .ok (.astore_n q, 1)) (hn : (q : Nat) < M.2.2.1) (ok : okS ls (q : Nat) = true) (hls : (ls.set (q : Nat) (some .null)) = ls2) (kk : Runs X d M mc ms Q pc2 ls2 rest k j w) : Runs X d M mc ms Q pc ls (.null :: rest) k j w := by
  subst hp; subst hls
  exact fun p e s m args below meth c A H locs la C P L => lv_astore_nN C.1 C.2.1 hd rfl L.lv hn rfl (fun la2 h2 => kk p e s m args below meth c A H locs la2 C P (Xhas_set1 ok h2))
theorem r_astoreN {X : Xn} {d : Nat} {M : XM} {mc ms : Nat} {Q : Option Value → va_W → Prop} {pc : Nat} {ls : List (Option Value)} {rest : List Value} {k j : Nat} {w : va_W} {i : Nat} {ls2 : List (Option Value)} (pc2 : Nat) (hp : pc + 2 = pc2) (hd : decode M.2.1 pc = .ok (.astore i, 2)) (hn : i < M.2.2.1) (ok : okS ls i = true) (hls : (ls.set i (some .null)) = ls2) (kk : Runs X d M mc ms Q pc2 ls2 rest k j w) : Runs X d M mc ms Q pc ls (.null :: rest) k j w := by
  subst hp; subst hls
  exact fun p e s m args below meth c A H locs la C P L => lv_astoreN C.1 C.2.1 hd L.lv hn rfl (fun la2 h2 => kk p e s m args below meth c A H locs la2 C P (Xhas_set1 ok h2))
theorem r_iinc {X : Xn} {d : Nat} {M : XM} {mc ms : Nat} {Q : Option Value → va_W → Prop} {pc : Nat} {ls : List (Option Value)} {rest : List Value} {k j : Nat} {w : va_W} {i : Nat} {n : Int} {x : Int32} (v : Int32) (hl : ls[i]? = some (some (.int x))) (hv : x + Int32.ofInt n = v) (pc2 : Nat) (hp : pc + 3 = pc2) (hd : decode M.2.1 pc = .ok (.iinc i n, 3)) (hn : i < M.2.2.1) (ok : okS ls i = true) {ls2 : List (Option Value)} (hls : ls.set i (some (.int v)) = ls2) (kk : Runs X d M mc ms Q pc2 ls2 rest k j w) : Runs X d M mc ms Q pc ls rest k j w := by
  subst hp; subst hls
  intro p e s m args below meth c A H locs la C P L
  obtain ⟨k0, hk0⟩ := List.getElem?_of_mem (Xl_mem hl)
  exact lv_iinc C.1 C.2.1 hd L.lv hk0 hv hn rfl (fun la2 h2 => kk p e s m args below meth c A H locs la2 C P (Xhas_set1 ok h2))
theorem r_forget {X : Xn} {d : Nat} {M : XM} {mc ms : Nat} {Q : Option Value → va_W → Prop} {pc : Nat} {ls : List (Option Value)} {rest : List Value} {k j : Nat} {w : va_W} {ls2 : List (Option Value)} (i : Nat) (hls : ls.set i none = ls2) (kk : Runs X d M mc ms Q pc ls2 rest k j w) : Runs X d M mc ms Q pc ls rest k j w := by
  subst hls
  refine kk.less (fun a b h => ?_)
  by_cases ha : a = i
  · subst ha
    by_cases hl : a < ls.length
    · rw [List.getElem?_set_self hl] at h; cases h
    · rw [List.getElem?_eq_none (by rw [List.length_set]; omega)] at h; cases h
  · rwa [List.getElem?_set_ne (Ne.symm ha)] at h
theorem r_if_eq {X : Xn} {d : Nat} {M : XM} {mc ms : Nat} {Q : Option Value → va_W → Prop} {pc : Nat} {ls : List (Option Value)} {rest : List Value} {k j : Nat} {w : va_W} {x : Int32} {off : Int} (pc2 pct : Nat) (hp : pc + 3 = pc2) (ht : (pc : Int) + off = (pct : Int)) (hd : decode M.2.1 pc = .ok (.ifCond .eq off, 3)) (kt : x = 0 → Runs X d M mc ms Q pct ls rest k j w) (kf : ¬ x = 0 → Runs X d M mc ms Q pc2 ls rest k j w) : Runs X d M mc ms Q pc ls (.int x :: rest) k j w := by
  subst hp
  exact fun p e s m args below meth c A H locs la C P L => lv_if_eq C.1 C.2.1 hd ht (fun h => kt h p e s m args below meth c A H locs la C P L) (fun h => kf h p e s m args below meth c A H locs la C P L)
theorem r_if_eq_t {X : Xn} {d : Nat} {M : XM} {mc ms : Nat} {Q : Option Value → va_W → Prop} {pc : Nat} {ls : List (Option Value)} {rest : List Value} {k j : Nat} {w : va_W} {x : Int32} {off : Int} (pct : Nat) (ht : (pc : Int) + off = (pct : Int)) (hd : decode M.2.1 pc = .ok (.ifCond .eq off, 3)) (hc : x = 0) (kt : Runs X d M mc ms Q pct ls rest k j w) : Runs X d M mc ms Q pc ls (.int x :: rest) k j w := r_if_eq (pc + 3) pct rfl ht hd (fun _ => kt) (fun h => absurd hc (by simpa using h))
theorem r_if_eq_f {X : Xn} {d : Nat} {M : XM} {mc ms : Nat} {Q : Option Value → va_W → Prop} {pc : Nat} {ls : List (Option Value)} {rest : List Value} {k j : Nat} {w : va_W} {x : Int32} {off : Int} (pc2 : Nat) (hp : pc + 3 = pc2) (pct : Nat) (ht : (pc : Int) + off = (pct : Int)) (hd : decode M.2.1 pc = .ok (.ifCond .eq off, 3)) (hc : ¬ x = 0) (kf : Runs X d M mc ms Q pc2 ls rest k j w) : Runs X d M mc ms Q pc ls (.int x :: rest) k j w := r_if_eq pc2 pct hp ht hd (fun h => absurd hc (by simpa using h)) (fun _ => kf)
theorem r_icmp_eq {X : Xn} {d : Nat} {M : XM} {mc ms : Nat} {Q : Option Value → va_W → Prop} {pc : Nat} {ls : List (Option Value)} {rest : List Value} {k j : Nat} {w : va_W} {x y : Int32} {off : Int} (pc2 pct : Nat) (hp : pc + 3 = pc2) (ht : (pc : Int) + off = (pct : Int)) (hd : decode M.2.1 pc = .ok (.if_icmp .eq off, 3)) (kt : x = y → Runs X d M mc ms Q pct ls rest k j w) (kf : ¬ x = y → Runs X d M mc ms Q pc2 ls rest k j w) : Runs X d M mc ms Q pc ls (.int y :: .int x :: rest) k j w := by
  subst hp
  exact fun p e s m args below meth c A H locs la C P L => lv_icmp_eq C.1 C.2.1 hd ht (fun h => kt h p e s m args below meth c A H locs la C P L) (fun h => kf h p e s m args below meth c A H locs la C P L)
theorem r_icmp_eq_t {X : Xn} {d : Nat} {M : XM} {mc ms : Nat} {Q : Option Value → va_W → Prop} {pc : Nat} {ls : List (Option Value)} {rest : List Value} {k j : Nat} {w : va_W} {x y : Int32} {off : Int} (pct : Nat) (ht : (pc : Int) + off = (pct : Int)) (hd : decode M.2.1 pc = .ok (.if_icmp .eq off, 3)) (hc : x = y) (kt : Runs X d M mc ms Q pct ls rest k j w) : Runs X d M mc ms Q pc ls (.int y :: .int x :: rest) k j w := r_icmp_eq (pc + 3) pct rfl ht hd (fun _ => kt) (fun h => absurd hc (by simpa using h))
theorem r_icmp_eq_f {X : Xn} {d : Nat} {M : XM} {mc ms : Nat} {Q : Option Value → va_W → Prop} {pc : Nat} {ls : List (Option Value)} {rest : List Value} {k j : Nat} {w : va_W} {x y : Int32} {off : Int} (pc2 : Nat) (hp : pc + 3 = pc2) (pct : Nat) (ht : (pc : Int) + off = (pct : Int)) (hd : decode M.2.1 pc = .ok (.if_icmp .eq off, 3)) (hc : ¬ x = y) (kf : Runs X d M mc ms Q pc2 ls rest k j w) : Runs X d M mc ms Q pc ls (.int y :: .int x :: rest) k j w := r_icmp_eq pc2 pct hp ht hd (fun h => absurd hc (by simpa using h)) (fun _ => kf)
theorem r_if_ne {X : Xn} {d : Nat} {M : XM} {mc ms : Nat} {Q : Option Value → va_W → Prop} {pc : Nat} {ls : List (Option Value)} {rest : List Value} {k j : Nat} {w : va_W} {x : Int32} {off : Int} (pc2 pct : Nat) (hp : pc + 3 = pc2) (ht : (pc : Int) + off = (pct : Int)) (hd : decode M.2.1 pc = .ok (.ifCond .ne off, 3)) (kt : ¬ x = 0 → Runs X d M mc ms Q pct ls rest k j w) (kf : x = 0 → Runs X d M mc ms Q pc2 ls rest k j w) : Runs X d M mc ms Q pc ls (.int x :: rest) k j w := by
  subst hp
  exact fun p e s m args below meth c A H locs la C P L => lv_if_ne C.1 C.2.1 hd ht (fun h => kt h p e s m args below meth c A H locs la C P L) (fun h => kf h p e s m args below meth c A H locs la C P L)
theorem r_if_ne_t {X : Xn} {d : Nat} {M : XM} {mc ms : Nat} {Q : Option Value → va_W → Prop} {pc : Nat} {ls : List (Option Value)} {rest : List Value} {k j : Nat} {w : va_W} {x : Int32} {off : Int} (pct : Nat) (ht : (pc : Int) + off = (pct : Int)) (hd : decode M.2.1 pc = .ok (.ifCond .ne off, 3)) (hc : ¬ x = 0) (kt : Runs X d M mc ms Q pct ls rest k j w) : Runs X d M mc ms Q pc ls (.int x :: rest) k j w := r_if_ne (pc + 3) pct rfl ht hd (fun _ => kt) (fun h => absurd hc (by simpa using h))
theorem r_if_ne_f {X : Xn} {d : Nat} {M : XM} {mc ms : Nat} {Q : Option Value → va_W → Prop} {pc : Nat} {ls : List (Option Value)} {rest : List Value} {k j : Nat} {w : va_W} {x : Int32} {off : Int} (pc2 : Nat) (hp : pc + 3 = pc2) (pct : Nat) (ht : (pc : Int) + off = (pct : Int)) (hd : decode M.2.1 pc = .ok (.ifCond .ne off, 3)) (hc : x = 0) (kf : Runs X d M mc ms Q pc2 ls rest k j w) : Runs X d M mc ms Q pc ls (.int x :: rest) k j w := r_if_ne pc2 pct hp ht hd (fun h => absurd hc (by simpa using h)) (fun _ => kf)
theorem r_icmp_ne {X : Xn} {d : Nat} {M : XM} {mc ms : Nat} {Q : Option Value → va_W → Prop} {pc : Nat} {ls : List (Option Value)} {rest : List Value} {k j : Nat} {w : va_W} {x y : Int32} {off : Int} (pc2 pct : Nat) (hp : pc + 3 = pc2) (ht : (pc : Int) + off = (pct : Int)) (hd : decode M.2.1 pc = .ok (.if_icmp .ne off, 3)) (kt : ¬ x = y → Runs X d M mc ms Q pct ls rest k j w) (kf : x = y → Runs X d M mc ms Q pc2 ls rest k j w) : Runs X d M mc ms Q pc ls (.int y :: .int x :: rest) k j w := by
  subst hp
  exact fun p e s m args below meth c A H locs la C P L => lv_icmp_ne C.1 C.2.1 hd ht (fun h => kt h p e s m args below meth c A H locs la C P L) (fun h => kf h p e s m args below meth c A H locs la C P L)
theorem r_icmp_ne_t {X : Xn} {d : Nat} {M : XM} {mc ms : Nat} {Q : Option Value → va_W → Prop} {pc : Nat} {ls : List (Option Value)} {rest : List Value} {k j : Nat} {w : va_W} {x y : Int32} {off : Int} (pct : Nat) (ht : (pc : Int) + off = (pct : Int)) (hd : decode M.2.1 pc = .ok (.if_icmp .ne off, 3)) (hc : ¬ x = y) (kt : Runs X d M mc ms Q pct ls rest k j w) : Runs X d M mc ms Q pc ls (.int y :: .int x :: rest) k j w := r_icmp_ne (pc + 3) pct rfl ht hd (fun _ => kt) (fun h => absurd hc (by simpa using h))
theorem r_icmp_ne_f {X : Xn} {d : Nat} {M : XM} {mc ms : Nat} {Q : Option Value → va_W → Prop} {pc : Nat} {ls : List (Option Value)} {rest : List Value} {k j : Nat} {w : va_W} {x y : Int32} {off : Int} (pc2 : Nat) (hp : pc + 3 = pc2) (pct : Nat) (ht : (pc : Int) + off = (pct : Int)) (hd : decode M.2.1 pc = .ok (.if_icmp .ne off, 3)) (hc : x = y) (kf : Runs X d M mc ms Q pc2 ls rest k j w) : Runs X d M mc ms Q pc ls (.int y :: .int x :: rest) k j w := r_icmp_ne pc2 pct hp ht hd (fun h => absurd hc (by simpa using h)) (fun _ => kf)
theorem r_if_lt {X : Xn} {d : Nat} {M : XM} {mc ms : Nat} {Q : Option Value → va_W → Prop} {pc : Nat} {ls : List (Option Value)} {rest : List Value} {k j : Nat} {w : va_W} {x : Int32} {off : Int} (pc2 pct : Nat) (hp : pc + 3 = pc2) (ht : (pc : Int) + off = (pct : Int)) (hd : decode M.2.1 pc = .ok (.ifCond .lt off, 3)) (kt : x < 0 → Runs X d M mc ms Q pct ls rest k j w) (kf : ¬ x < 0 → Runs X d M mc ms Q pc2 ls rest k j w) : Runs X d M mc ms Q pc ls (.int x :: rest) k j w := by
  subst hp
  exact fun p e s m args below meth c A H locs la C P L => lv_if_lt C.1 C.2.1 hd ht (fun h => kt h p e s m args below meth c A H locs la C P L) (fun h => kf h p e s m args below meth c A H locs la C P L)
theorem r_if_lt_t {X : Xn} {d : Nat} {M : XM} {mc ms : Nat} {Q : Option Value → va_W → Prop} {pc : Nat} {ls : List (Option Value)} {rest : List Value} {k j : Nat} {w : va_W} {x : Int32} {off : Int} (pct : Nat) (ht : (pc : Int) + off = (pct : Int)) (hd : decode M.2.1 pc = .ok (.ifCond .lt off, 3)) (hc : x < 0) (kt : Runs X d M mc ms Q pct ls rest k j w) : Runs X d M mc ms Q pc ls (.int x :: rest) k j w := r_if_lt (pc + 3) pct rfl ht hd (fun _ => kt) (fun h => absurd hc (by simpa using h))
theorem r_if_lt_f {X : Xn} {d : Nat} {M : XM} {mc ms : Nat} {Q : Option Value → va_W → Prop} {pc : Nat} {ls : List (Option Value)} {rest : List Value} {k j : Nat} {w : va_W} {x : Int32} {off : Int} (pc2 : Nat) (hp : pc + 3 = pc2) (pct : Nat) (ht : (pc : Int) + off = (pct : Int)) (hd : decode M.2.1 pc = .ok (.ifCond .lt off, 3)) (hc : ¬ x < 0) (kf : Runs X d M mc ms Q pc2 ls rest k j w) : Runs X d M mc ms Q pc ls (.int x :: rest) k j w := r_if_lt pc2 pct hp ht hd (fun h => absurd hc (by simpa using h)) (fun _ => kf)
theorem r_icmp_lt {X : Xn} {d : Nat} {M : XM} {mc ms : Nat} {Q : Option Value → va_W → Prop} {pc : Nat} {ls : List (Option Value)} {rest : List Value} {k j : Nat} {w : va_W} {x y : Int32} {off : Int} (pc2 pct : Nat) (hp : pc + 3 = pc2) (ht : (pc : Int) + off = (pct : Int)) (hd : decode M.2.1 pc = .ok (.if_icmp .lt off, 3)) (kt : x < y → Runs X d M mc ms Q pct ls rest k j w) (kf : ¬ x < y → Runs X d M mc ms Q pc2 ls rest k j w) : Runs X d M mc ms Q pc ls (.int y :: .int x :: rest) k j w := by
  subst hp
  exact fun p e s m args below meth c A H locs la C P L => lv_icmp_lt C.1 C.2.1 hd ht (fun h => kt h p e s m args below meth c A H locs la C P L) (fun h => kf h p e s m args below meth c A H locs la C P L)
theorem r_icmp_lt_t {X : Xn} {d : Nat} {M : XM} {mc ms : Nat} {Q : Option Value → va_W → Prop} {pc : Nat} {ls : List (Option Value)} {rest : List Value} {k j : Nat} {w : va_W} {x y : Int32} {off : Int} (pct : Nat) (ht : (pc : Int) + off = (pct : Int)) (hd : decode M.2.1 pc = .ok (.if_icmp .lt off, 3)) (hc : x < y) (kt : Runs X d M mc ms Q pct ls rest k j w) : Runs X d M mc ms Q pc ls (.int y :: .int x :: rest) k j w := r_icmp_lt (pc + 3) pct rfl ht hd (fun _ => kt) (fun h => absurd hc (by simpa using h))
theorem r_icmp_lt_f {X : Xn} {d : Nat} {M : XM} {mc ms : Nat} {Q : Option Value → va_W → Prop} {pc : Nat} {ls : List (Option Value)} {rest : List Value} {k j : Nat} {w : va_W} {x y : Int32} {off : Int} (pc2 : Nat) (hp : pc + 3 = pc2) (pct : Nat) (ht : (pc : Int) + off = (pct : Int)) (hd : decode M.2.1 pc = .ok (.if_icmp .lt off, 3)) (hc : ¬ x < y) (kf : Runs X d M mc ms Q pc2 ls rest k j w) : Runs X d M mc ms Q pc ls (.int y :: .int x :: rest) k j w := r_icmp_lt pc2 pct hp ht hd (fun h => absurd hc (by simpa using h)) (fun _ => kf)
theorem r_if_ge {X : Xn} {d : Nat} {M : XM} {mc ms : Nat} {Q : Option Value → va_W → Prop} {pc : Nat} {ls : List (Option Value)} {rest : List Value} {k j : Nat} {w : va_W} {x : Int32} {off : Int} (pc2 pct : Nat) (hp : pc + 3 = pc2) (ht : (pc : Int) + off = (pct : Int)) (hd : decode M.2.1 pc = .ok (.ifCond .ge off, 3)) (kt : 0 ≤ x → Runs X d M mc ms Q pct ls rest k j w) (kf : ¬ 0 ≤ x → Runs X d M mc ms Q pc2 ls rest k j w) : Runs X d M mc ms Q pc ls (.int x :: rest) k j w := by
  subst hp
  exact fun p e s m args below meth c A H locs la C P L => lv_if_ge C.1 C.2.1 hd ht (fun h => kt h p e s m args below meth c A H locs la C P L) (fun h => kf h p e s m args below meth c A H locs la C P L)
theorem r_if_ge_t {X : Xn} {d : Nat} {M : XM} {mc ms : Nat} {Q : Option Value → va_W → Prop} {pc : Nat} {ls : List (Option Value)} {rest : List Value} {k j : Nat} {w : va_W} {x : Int32} {off : Int} (pct : Nat) (ht : (pc : Int) + off = (pct : Int)) (hd : decode M.2.1 pc = .ok (.ifCond .ge off, 3)) (hc : 0 ≤ x) (kt : Runs X d M mc ms Q pct ls rest k j w) : Runs X d M mc ms Q pc ls (.int x :: rest) k j w := r_if_ge (pc + 3) pct rfl ht hd (fun _ => kt) (fun h => absurd hc (by simpa using h))
theorem r_if_ge_f {X : Xn} {d : Nat} {M : XM} {mc ms : Nat} {Q : Option Value → va_W → Prop} {pc : Nat} {ls : List (Option Value)} {rest : List Value} {k j : Nat} {w : va_W} {x : Int32} {off : Int} (pc2 : Nat) (hp : pc + 3 = pc2) (pct : Nat) (ht : (pc : Int) + off = (pct : Int)) (hd : decode M.2.1 pc = .ok (.ifCond .ge off, 3)) (hc : ¬ 0 ≤ x) (kf : Runs X d M mc ms Q pc2 ls rest k j w) : Runs X d M mc ms Q pc ls (.int x :: rest) k j w := r_if_ge pc2 pct hp ht hd (fun h => absurd hc (by simpa using h)) (fun _ => kf)
theorem r_icmp_ge {X : Xn} {d : Nat} {M : XM} {mc ms : Nat} {Q : Option Value → va_W → Prop} {pc : Nat} {ls : List (Option Value)} {rest : List Value} {k j : Nat} {w : va_W} {x y : Int32} {off : Int} (pc2 pct : Nat) (hp : pc + 3 = pc2) (ht : (pc : Int) + off = (pct : Int)) (hd : decode M.2.1 pc = .ok (.if_icmp .ge off, 3)) (kt : y ≤ x → Runs X d M mc ms Q pct ls rest k j w) (kf : ¬ y ≤ x → Runs X d M mc ms Q pc2 ls rest k j w) : Runs X d M mc ms Q pc ls (.int y :: .int x :: rest) k j w := by
  subst hp
  exact fun p e s m args below meth c A H locs la C P L => lv_icmp_ge C.1 C.2.1 hd ht (fun h => kt h p e s m args below meth c A H locs la C P L) (fun h => kf h p e s m args below meth c A H locs la C P L)
theorem r_icmp_ge_t {X : Xn} {d : Nat} {M : XM} {mc ms : Nat} {Q : Option Value → va_W → Prop} {pc : Nat} {ls : List (Option Value)} {rest : List Value} {k j : Nat} {w : va_W} {x y : Int32} {off : Int} (pct : Nat) (ht : (pc : Int) + off = (pct : Int)) (hd : decode M.2.1 pc = .ok (.if_icmp .ge off, 3)) (hc : y ≤ x) (kt : Runs X d M mc ms Q pct ls rest k j w) : Runs X d M mc ms Q pc ls (.int y :: .int x :: rest) k j w := r_icmp_ge (pc + 3) pct rfl ht hd (fun _ => kt) (fun h => absurd hc (by simpa using h))
theorem r_icmp_ge_f {X : Xn} {d : Nat} {M : XM} {mc ms : Nat} {Q : Option Value → va_W → Prop} {pc : Nat} {ls : List (Option Value)} {rest : List Value} {k j : Nat} {w : va_W} {x y : Int32} {off : Int} (pc2 : Nat) (hp : pc + 3 = pc2) (pct : Nat) (ht : (pc : Int) + off = (pct : Int)) (hd : decode M.2.1 pc = .ok (.if_icmp .ge off, 3)) (hc : ¬ y ≤ x) (kf : Runs X d M mc ms Q pc2 ls rest k j w) : Runs X d M mc ms Q pc ls (.int y :: .int x :: rest) k j w := r_icmp_ge pc2 pct hp ht hd (fun h => absurd hc (by simpa using h)) (fun _ => kf)
theorem r_if_gt {X : Xn} {d : Nat} {M : XM} {mc ms : Nat} {Q : Option Value → va_W → Prop} {pc : Nat} {ls : List (Option Value)} {rest : List Value} {k j : Nat} {w : va_W} {x : Int32} {off : Int} (pc2 pct : Nat) (hp : pc + 3 = pc2) (ht : (pc : Int) + off = (pct : Int)) (hd : decode M.2.1 pc = .ok (.ifCond .gt off, 3)) (kt : 0 < x → Runs X d M mc ms Q pct ls rest k j w) (kf : ¬ 0 < x → Runs X d M mc ms Q pc2 ls rest k j w) : Runs X d M mc ms Q pc ls (.int x :: rest) k j w := by
  subst hp
  exact fun p e s m args below meth c A H locs la C P L => lv_if_gt C.1 C.2.1 hd ht (fun h => kt h p e s m args below meth c A H locs la C P L) (fun h => kf h p e s m args below meth c A H locs la C P L)
theorem r_if_gt_t {X : Xn} {d : Nat} {M : XM} {mc ms : Nat} {Q : Option Value → va_W → Prop} {pc : Nat} {ls : List (Option Value)} {rest : List Value} {k j : Nat} {w : va_W} {x : Int32} {off : Int} (pct : Nat) (ht : (pc : Int) + off = (pct : Int)) (hd : decode M.2.1 pc = .ok (.ifCond .gt off, 3)) (hc : 0 < x) (kt : Runs X d M mc ms Q pct ls rest k j w) : Runs X d M mc ms Q pc ls (.int x :: rest) k j w := r_if_gt (pc + 3) pct rfl ht hd (fun _ => kt) (fun h => absurd hc (by simpa using h))
theorem r_if_gt_f {X : Xn} {d : Nat} {M : XM} {mc ms : Nat} {Q : Option Value → va_W → Prop} {pc : Nat} {ls : List (Option Value)} {rest : List Value} {k j : Nat} {w : va_W} {x : Int32} {off : Int} (pc2 : Nat) (hp : pc + 3 = pc2) (pct : Nat) (ht : (pc : Int) + off = (pct : Int)) (hd : decode M.2.1 pc = .ok (.ifCond .gt off, 3)) (hc : ¬ 0 < x) (kf : Runs X d M mc ms Q pc2 ls rest k j w) : Runs X d M mc ms Q pc ls (.int x :: rest) k j w := r_if_gt pc2 pct hp ht hd (fun h => absurd hc (by simpa using h)) (fun _ => kf)
theorem r_icmp_gt {X : Xn} {d : Nat} {M : XM} {mc ms : Nat} {Q : Option Value → va_W → Prop} {pc : Nat} {ls : List (Option Value)} {rest : List Value} {k j : Nat} {w : va_W} {x y : Int32} {off : Int} (pc2 pct : Nat) (hp : pc + 3 = pc2) (ht : (pc : Int) + off = (pct : Int)) (hd : decode M.2.1 pc = .ok (.if_icmp .gt off, 3)) (kt : y < x → Runs X d M mc ms Q pct ls rest k j w) (kf : ¬ y < x → Runs X d M mc ms Q pc2 ls rest k j w) : Runs X d M mc ms Q pc ls (.int y :: .int x :: rest) k j w := by
  subst hp
  exact fun p e s m args below meth c A H locs la C P L => lv_icmp_gt C.1 C.2.1 hd ht (fun h => kt h p e s m args below meth c A H locs la C P L) (fun h => kf h p e s m args below meth c A H locs la C P L)
theorem r_icmp_gt_t {X : Xn} {d : Nat} {M : XM} {mc ms : Nat} {Q : Option Value → va_W → Prop} {pc : Nat} {ls : List (Option Value)} {rest : List Value} {k j : Nat} {w : va_W} {x y : Int32} {off : Int} (pct : Nat) (ht : (pc : Int) + off = (pct : Int)) (hd : decode M.2.1 pc = .ok (.if_icmp .gt off, 3)) (hc : y < x) (kt : Runs X d M mc ms Q pct ls rest k j w) : Runs X d M mc ms Q pc ls (.int y :: .int x :: rest) k j w := r_icmp_gt (pc + 3) pct rfl ht hd (fun _ => kt) (fun h => absurd hc (by simpa using h))
theorem r_icmp_gt_f {X : Xn} {d : Nat} {M : XM} {mc ms : Nat} {Q : Option Value → va_W → Prop} {pc : Nat} {ls : List (Option Value)} {rest : List Value} {k j : Nat} {w : va_W} {x y : Int32} {off : Int} (pc2 : Nat) (hp : pc + 3 = pc2) (pct : Nat) (ht : (pc : Int) + off = (pct : Int)) (hd : decode M.2.1 pc = .ok (.if_icmp .gt off, 3)) (hc : ¬ y < x) (kf : Runs X d M mc ms Q pc2 ls rest k j w) : Runs X d M mc ms Q pc ls (.int y :: .int x :: rest) k j w := r_icmp_gt pc2 pct hp ht hd (fun h => absurd hc (by simpa using h)) (fun _ => kf)
theorem r_if_le {X : Xn} {d : Nat} {M : XM} {mc ms : Nat} {Q : Option Value → va_W → Prop} {pc : Nat} {ls : List (Option Value)} {rest : List Value} {k j : Nat} {w : va_W} {x : Int32} {off : Int} (pc2 pct : Nat) (hp : pc + 3 = pc2) (ht : (pc : Int) + off = (pct : Int)) (hd : decode M.2.1 pc = .ok (.ifCond .le off, 3)) (kt : x ≤ 0 → Runs X d M mc ms Q pct ls rest k j w) (kf : ¬ x ≤ 0 → Runs X d M mc ms Q pc2 ls rest k j w) : Runs X d M mc ms Q pc ls (.int x :: rest) k j w := by
  subst hp
  exact fun p e s m args below meth c A H locs la C P L => lv_if_le C.1 C.2.1 hd ht (fun h => kt h p e s m args below meth c A H locs la C P L) (fun h => kf h p e s m args below meth c A H locs la C P L)
theorem r_if_le_t {X : Xn} {d : Nat} {M : XM} {mc ms : Nat} {Q : Option Value → va_W → Prop} {pc : Nat} {ls : List (Option Value)} {rest : List Value} {k j : Nat} {w : va_W} {x : Int32} {off : Int} (pct : Nat) (ht : (pc : Int) + off = (pct : Int)) (hd : decode M.2.1 pc = .ok (.ifCond .le off, 3)) (hc : x ≤ 0) (kt : Runs X d M mc ms Q pct ls rest k j w) : Runs X d M mc ms Q pc ls (.int x :: rest) k j w := r_if_le (pc + 3) pct rfl ht hd (fun _ => kt) (fun h => absurd hc (by simpa using h))
theorem r_if_le_f {X : Xn} {d : Nat} {M : XM} {mc ms : Nat} {Q : Option Value → va_W → Prop} {pc : Nat} {ls : List (Option Value)} {rest : List Value} {k j : Nat} {w : va_W} {x : Int32} {off : Int} (pc2 : Nat) (hp : pc + 3 = pc2) (pct : Nat) (ht : (pc : Int) + off = (pct : Int)) (hd : decode M.2.1 pc = .ok (.ifCond .le off, 3)) (hc : ¬ x ≤ 0) (kf : Runs X d M mc ms Q pc2 ls rest k j w) : Runs X d M mc ms Q pc ls (.int x :: rest) k j w := r_if_le pc2 pct hp ht hd (fun h => absurd hc (by simpa using h)) (fun _ => kf)
theorem r_icmp_le {X : Xn} {d : Nat} {M : XM} {mc ms : Nat} {Q : Option Value → va_W → Prop} {pc : Nat} {ls : List (Option Value)} {rest : List Value} {k j : Nat} {w : va_W} {x y : Int32} {off : Int} (pc2 pct : Nat) (hp : pc + 3 = pc2) (ht : (pc : Int) + off = (pct : Int)) (hd : decode M.2.1 pc = .ok (.if_icmp .le off, 3)) (kt : x ≤ y → Runs X d M mc ms Q pct ls rest k j w) (kf : ¬ x ≤ y → Runs X d M mc ms Q pc2 ls rest k j w) : Runs X d M mc ms Q pc ls (.int y :: .int x :: rest) k j w := by
  subst hp
  exact fun p e s m args below meth c A H locs la C P L => lv_icmp_le C.1 C.2.1 hd ht (fun h => kt h p e s m args below meth c A H locs la C P L) (fun h => kf h p e s m args below meth c A H locs la C P L)
theorem r_icmp_le_t {X : Xn} {d : Nat} {M : XM} {mc ms : Nat} {Q : Option Value → va_W → Prop} {pc : Nat} {ls : List (Option Value)} {rest : List Value} {k j : Nat} {w : va_W} {x y : Int32} {off : Int} (pct : Nat) (ht : (pc : Int) + off = (pct : Int)) (hd : decode M.2.1 pc = .ok (.if_icmp .le off, 3)) (hc : x ≤ y) (kt : Runs X d M mc ms Q pct ls rest k j w) : Runs X d M mc ms Q pc ls (.int y :: .int x :: rest) k j w := r_icmp_le (pc + 3) pct rfl ht hd (fun _ => kt) (fun h => absurd hc (by simpa using h))
theorem r_icmp_le_f {X : Xn} {d : Nat} {M : XM} {mc ms : Nat} {Q : Option Value → va_W → Prop} {pc : Nat} {ls : List (Option Value)} {rest : List Value} {k j : Nat} {w : va_W} {x y : Int32} {off : Int} (pc2 : Nat) (hp : pc + 3 = pc2) (pct : Nat) (ht : (pc : Int) + off = (pct : Int)) (hd : decode M.2.1 pc = .ok (.if_icmp .le off, 3)) (hc : ¬ x ≤ y) (kf : Runs X d M mc ms Q pc2 ls rest k j w) : Runs X d M mc ms Q pc ls (.int y :: .int x :: rest) k j w := r_icmp_le pc2 pct hp ht hd (fun h => absurd hc (by simpa using h)) (fun _ => kf)
theorem r_goto {X : Xn} {d : Nat} {M : XM} {mc ms : Nat} {Q : Option Value → va_W → Prop} {pc : Nat} {ls : List (Option Value)} {rest : List Value} {k j : Nat} {w : va_W} {off : Int} (pct : Nat) (ht : (pc : Int) + off = (pct : Int)) (hd : decode M.2.1 pc = .ok (.goto off, 3)) (kt : Runs X d M mc ms Q pct ls rest k j w) : Runs X d M mc ms Q pc ls rest k j w := fun p e s m args below meth c A H locs la C P L => lv_goto C.1 C.2.1 hd ht (kt p e s m args below meth c A H locs la C P L)
theorem r_ifnonnull {X : Xn} {d : Nat} {M : XM} {mc ms : Nat} {Q : Option Value → va_W → Prop} {pc : Nat} {ls : List (Option Value)} {rest : List Value} {k j : Nat} {w : va_W} {x : Nat} {off : Int} (pct : Nat) (ht : (pc : Int) + off = (pct : Int)) (hd : decode M.2.1 pc = .ok (.ifnonnull off, 3)) (kt : Runs X d M mc ms Q pct ls rest k j w) : Runs X d M mc ms Q pc ls (.ref x :: rest) k j w := fun p e s m args below meth c A H locs la C P L => lv_ifnonnull C.1 C.2.1 hd ht (kt p e s m args below meth c A H locs la C P L)
theorem r_ifnull {X : Xn} {d : Nat} {M : XM} {mc ms : Nat} {Q : Option Value → va_W → Prop} {pc : Nat} {ls : List (Option Value)} {rest : List Value} {k j : Nat} {w : va_W} {x : Nat} {off : Int} (pc2 : Nat) (hp : pc + 3 = pc2) (hd : decode M.2.1 pc = .ok (.ifnull off, 3)) (kt : Runs X d M mc ms Q pc2 ls rest k j w) : Runs X d M mc ms Q pc ls (.ref x :: rest) k j w := by
  subst hp
  exact fun p e s m args below meth c A H locs la C P L => lv_ifnull C.1 C.2.1 hd (kt p e s m args below meth c A H locs la C P L)
theorem r_ifnullN {X : Xn} {d : Nat} {M : XM} {mc ms : Nat} {Q : Option Value → va_W → Prop} {pc : Nat} {ls : List (Option Value)} {rest : List Value} {k j : Nat} {w : va_W} {off : Int} (pct : Nat) (ht : (pc : Int) + off = (pct : Int)) (hd : decode M.2.1 pc = .ok (.ifnull off, 3)) (kt : Runs X d M mc ms Q pct ls rest k j w) : Runs X d M mc ms Q pc ls (.null :: rest) k j w := fun p e s m args below meth c A H locs la C P L => lv_ifnullN C.1 C.2.1 hd ht (kt p e s m args below meth c A H locs la C P L)
theorem r_ifnonnullN {X : Xn} {d : Nat} {M : XM} {mc ms : Nat} {Q : Option Value → va_W → Prop} {pc : Nat} {ls : List (Option Value)} {rest : List Value} {k j : Nat} {w : va_W} {off : Int} (pc2 : Nat) (hp : pc + 3 = pc2) (hd : decode M.2.1 pc = .ok (.ifnonnull off, 3)) (kt : Runs X d M mc ms Q pc2 ls rest k j w) : Runs X d M mc ms Q pc ls (.null :: rest) k j w := by
  subst hp
  exact fun p e s m args below meth c A H locs la C P L => lv_ifnonnullN C.1 C.2.1 hd (kt p e s m args below meth c A H locs la C P L)
theorem r_tableIn {X : Xn} {d : Nat} {M : XM} {mc ms : Nat} {Q : Option Value → va_W → Prop} {pc : Nat} {ls : List (Option Value)} {rest : List Value} {k j : Nat} {w : va_W} {dflt lo hi : Int} {offs : Array Int} {len : Nat} {x : Int32} {off : Int} (pct : Nat) (hd : decode M.2.1 pc = .ok (.tableswitch dflt lo hi offs, len)) (h1 : ¬ x.toInt < lo) (h2 : ¬ hi < x.toInt) (ho : offs[(x.toInt - lo).toNat]? = some off) (ht : (pc : Int) + off = (pct : Int)) (kt : Runs X d M mc ms Q pct ls rest k j w) : Runs X d M mc ms Q pc ls (.int x :: rest) k j w := fun p e s m args below meth c A H locs la C P L => lv_tableIn C.1 C.2.1 hd h1 h2 ho ht (kt p e s m args below meth c A H locs la C P L)
theorem r_tableOut {X : Xn} {d : Nat} {M : XM} {mc ms : Nat} {Q : Option Value → va_W → Prop} {pc : Nat} {ls : List (Option Value)} {rest : List Value} {k j : Nat} {w : va_W} {dflt lo hi : Int} {offs : Array Int} {len : Nat} {x : Int32} (pct : Nat) (hd : decode M.2.1 pc = .ok (.tableswitch dflt lo hi offs, len)) (h : x.toInt < lo ∨ hi < x.toInt) (ht : (pc : Int) + dflt = (pct : Int)) (kt : Runs X d M mc ms Q pct ls rest k j w) : Runs X d M mc ms Q pc ls (.int x :: rest) k j w := fun p e s m args below meth c A H locs la C P L => lv_tableOut C.1 C.2.1 hd h ht (kt p e s m args below meth c A H locs la C P L)
theorem r_lookup {X : Xn} {d : Nat} {M : XM} {mc ms : Nat} {Q : Option Value → va_W → Prop} {pc : Nat} {ls : List (Option Value)} {rest : List Value} {k j : Nat} {w : va_W} {dflt : Int} {ps : Array (Int × Int)} {len : Nat} {x : Int32} {off : Int} (pct : Nat) (hd : decode M.2.1 pc = .ok (.lookupswitch dflt ps, len)) (hq : (ps.toList.zip (ps.toList.drop 1)).all (fun (a, next) => a.1 < next.1) = true) (ho : Op.lookupswitch.offset ps.toList dflt x.toInt = off) (ht : (pc : Int) + off = (pct : Int)) (kt : Runs X d M mc ms Q pct ls rest k j w) : Runs X d M mc ms Q pc ls (.int x :: rest) k j w := fun p e s m args below meth c A H locs la C P L => lv_lookup C.1 C.2.1 hd hq ho ht (kt p e s m args below meth c A H locs la C P L)
theorem r_topi {X : Xn} {d : Nat} {M : XM} {mc ms : Nat} {Q : Option Value → va_W → Prop} {pc : Nat} {ls : List (Option Value)} {rest : List Value} {k j : Nat} {w : va_W} {x : Int32} (y : Int32) (h : x = y) (kk : Runs X d M mc ms Q pc ls (.int y :: rest) k j w) : Runs X d M mc ms Q pc ls (.int x :: rest) k j w := by subst h; exact kk
theorem r_topl {X : Xn} {d : Nat} {M : XM} {mc ms : Nat} {Q : Option Value → va_W → Prop} {pc : Nat} {ls : List (Option Value)} {rest : List Value} {k j : Nat} {w : va_W} {x : Int64} (y : Int64) (h : x = y) (kk : Runs X d M mc ms Q pc ls (.long y :: rest) k j w) : Runs X d M mc ms Q pc ls (.long x :: rest) k j w := by subst h; exact kk
/-- getfield ix in own: field k of class ci -/
def GF (own : String) (ix ci kf : Nat) : Prop := ∃ (C : String) (T : u_T) (N : Nat), CLS[ci]? = some (C, T, N) ∧ kf < N ∧ (∀ w ∈ u_ws C T N, w ∈ TB) ∧ Cond.fieldLink own ix (T kf).1 (T kf).2.1 (T kf).2.2.1 ∈ TB
def GFn (own : String) (ix ci kf : Nat) : Prop := ∃ (C : String) (T : u_T) (N : Nat), CLS[ci]? = some (C, T, N) ∧ kf < N ∧ (∀ w ∈ u_ws C T N, w ∈ TB) ∧ Cond.fieldLinkNest own ix (T kf).1 (T kf).2.1 (T kf).2.2.1 "HandshakeBinds" ∈ NW
def PF (own : String) (ix ci kf : Nat) (ty : FieldType) (fin : Bool) : Prop := ∃ (C : String) (T : u_T) (N : Nat) (ty0 : Nat → FieldType), CLS[ci]? = some (C, T, N) ∧ kf < N ∧ (∀ w ∈ u_ws C T N, w ∈ TB) ∧ (∀ q, q < N → parseFieldDescriptor (T q).2.2.1 = some (ty0 q)) ∧ (∀ a, a < N → ∀ b, b < N → a ≠ b → (T a).2.1 ≠ (T b).2.1) ∧ Cond.fieldLink own ix (T kf).1 (T kf).2.1 (T kf).2.2.1 ∈ TB ∧ (T kf).2.2.2 = fin ∧ parseFieldDescriptor (T kf).2.2.1 = some ty ∧ (fin = true → (T kf).1 = own)
def PFn (own : String) (ix ci kf : Nat) (ty : FieldType) : Prop := ∃ (C : String) (T : u_T) (N : Nat) (ty0 : Nat → FieldType), CLS[ci]? = some (C, T, N) ∧ kf < N ∧ (∀ w ∈ u_ws C T N, w ∈ TB) ∧ (∀ q, q < N → parseFieldDescriptor (T q).2.2.1 = some (ty0 q)) ∧ (∀ a, a < N → ∀ b, b < N → a ≠ b → (T a).2.1 ≠ (T b).2.1) ∧ Cond.fieldLinkNest own ix (T kf).1 (T kf).2.1 (T kf).2.2.1 "HandshakeBinds" ∈ NW ∧ (T kf).2.2.2 = false ∧ parseFieldDescriptor (T kf).2.2.1 = some ty
theorem Cx.use {X : Xn} {M : XM} {p : Program} {s : State} {m : MethodId} {args : Array Value} {meth : Method} {c : Code} {A : Nat → Prop} (C : Cx X M p s m args meth c A) {q : Cond} (h : q ∈ TB) : q.before args s = true := C.2.2.2.2.1 q (List.mem_cons_of_mem _ h)
theorem Cx.ins {X : Xn} {M : XM} {p : Program} {s : State} {m : MethodId} {args : Array Value} {meth : Method} {c : Code} {A : Nat → Prop} (C : Cx X M p s m args meth c A) {l : List Cond} (h : ∀ q ∈ l, q ∈ TB) : ∀ q ∈ l, q ∈ Xws M := fun q hq => List.mem_cons_of_mem _ (h q hq)
theorem Cx.own {X : Xn} {M : XM} {p : Program} {s : State} {m : MethodId} {args : Array Value} {meth : Method} {c : Code} {A : Nat → Prop} (C : Cx X M p s m args meth c A) : s.vm.findClass M.1.cls = some m.cls := C.2.2.2.2.2.1
theorem Cx.K {X : Xn} {M : XM} {p : Program} {s : State} {m : MethodId} {args : Array Value} {meth : Method} {c : Code} {A : Nat → Prop} (C : Cx X M p s m args meth c A) : va_K X.2.1 CLS (Xtys X) s := C.2.2.2.2.2.2.2.2.1
theorem Cx.st {X : Xn} {M : XM} {p : Program} {s : State} {m : MethodId} {args : Array Value} {meth : Method} {c : Code} {A : Nat → Prop} (C : Cx X M p s m args meth c A) : Xst X A s s.heap := C.2.2.2.2.2.2.2.2.2.1
theorem Cx.nw {X : Xn} {M : XM} {p : Program} {s : State} {m : MethodId} {args : Array Value} {meth : Method} {c : Code} {A : Nat → Prop} (C : Cx X M p s m args meth c A) {q : Cond} (h : q ∈ NW) : va_Nw q s := C.st.2.2.2.2.2.2.2.2.2.2 q h
theorem Cx.new {X : Xn} {M : XM} {p : Program} {s : State} {m : MethodId} {args : Array Value} {meth : Method} {c : Code} {A : Nat → Prop} (C : Cx X M p s m args meth c A) : ∀ q, s.heap.size ≤ q → A q := C.2.2.2.2.2.2.2.2.2.2
theorem r_getf {X : Xn} {d : Nat} {M : XM} {mc ms : Nat} {Q : Option Value → va_W → Prop} {pc : Nat} {ls : List (Option Value)} {rest : List Value} {k j : Nat} {w : va_W} {ix ci kf a : Nat} {fs : List Value} {v : Value} (hf : GF M.1.cls ix ci kf) (q0 : Nat) (he : w[q0]? = some (a, .inr (ci, fs))) (hv : fs[kf]? = some v) (pc2 : Nat) (hp : pc + 3 = pc2) (hd : decode M.2.1 pc = .ok (.getfield ix, 3)) (kk : Runs X d M mc ms Q pc2 ls (v :: rest) k j w) : Runs X d M mc ms Q pc ls (.ref a :: rest) k j w := by
  subst hp
  obtain ⟨C0, T0, N0, h1, h2, h3, h4⟩ := hf
  exact fun p e s m args below meth c A H locs la C P L => va_get C.1 C.2.1 C.2.2.2.2.1 (C.ins h3) C.own C.K P.1 q0 he h1 kf h2 (C.use h4) (fun _ h9 => h9) hv hd (kk p e s m args below meth c A H locs la C P L)
theorem r_getfn {X : Xn} {d : Nat} {M : XM} {mc ms : Nat} {Q : Option Value → va_W → Prop} {pc : Nat} {ls : List (Option Value)} {rest : List Value} {k j : Nat} {w : va_W} {ix ci kf a : Nat} {fs : List Value} {v : Value} (hf : GFn M.1.cls ix ci kf) (q0 : Nat) (he : w[q0]? = some (a, .inr (ci, fs))) (hv : fs[kf]? = some v) (pc2 : Nat) (hp : pc + 3 = pc2) (hd : decode M.2.1 pc = .ok (.getfield ix, 3)) (kk : Runs X d M mc ms Q pc2 ls (v :: rest) k j w) : Runs X d M mc ms Q pc ls (.ref a :: rest) k j w := by
  subst hp
  obtain ⟨C0, T0, N0, h1, h2, h3, h4⟩ := hf
  exact fun p e s m args below meth c A H locs la C P L => va_getN C.1 C.2.1 C.2.2.2.2.1 (C.ins h3) C.own C.K P.1 q0 he h1 kf h2 (va_Nw.use rfl (C.nw h4)) (fun _ h9 => h9) hv hd (kk p e s m args below meth c A H locs la C P L)
theorem r_putf {X : Xn} {d : Nat} {M : XM} {mc ms : Nat} {Q : Option Value → va_W → Prop} {pc : Nat} {ls : List (Option Value)} {rest : List Value} {k j : Nat} {w : va_W} {ix ci kf a : Nat} {fs : List Value} {v : Value} {ty : FieldType} {w2 : va_W} (hf : PF M.1.cls ix ci kf ty false) (q0 : Nat) (he : w[q0]? = some (a, .inr (ci, fs))) (hn : narrow ty v = v) (hfit : fits ty v = true) (hl : kf < fs.length) (hw : w.set q0 (a, .inr (ci, fs.set kf v)) = w2) (pc2 : Nat) (hp : pc + 3 = pc2) (hd : decode M.2.1 pc = .ok (.putfield ix, 3)) (kk : Runs X d M mc ms Q pc2 ls rest k j w2) : Runs X d M mc ms Q pc ls (v :: .ref a :: rest) k j w := by
  subst hp
  subst hw
  obtain ⟨C0, T0, N0, ty0, h1, h2, h3, h4, h5, h6, h7, h8, -⟩ := hf
  exact fun p e s m args below meth c A H locs la C P L => va_put C.1 C.2.1 C.2.2.2.2.1 (C.ins h3) ty0 h4 h5 C.own C.K P.1 P.2.1 P.2.2 q0 he h1 kf h2 (C.use h6) (fun _ h9 => h9) h7 h8 hn hfit hl hd (fun H1 locs1 g1 g2 g3 => kk p e s m args below meth c A H1 locs1 la C ⟨g1, g2, g3⟩ L)
theorem r_putF {X : Xn} {d : Nat} {M : XM} {mc ms : Nat} {Q : Option Value → va_W → Prop} {pc : Nat} {ls : List (Option Value)} {rest : List Value} {k j : Nat} {w : va_W} {ix ci kf a : Nat} {fs : List Value} {v : Value} {ty : FieldType} {w2 : va_W} (hin : M.1.name = "<init>") (hf : PF M.1.cls ix ci kf ty true) (q0 : Nat) (he : w[q0]? = some (a, .inr (ci, fs))) (hn : narrow ty v = v) (hfit : fits ty v = true) (hl : kf < fs.length) (hw : w.set q0 (a, .inr (ci, fs.set kf v)) = w2) (pc2 : Nat) (hp : pc + 3 = pc2) (hd : decode M.2.1 pc = .ok (.putfield ix, 3)) (kk : Runs X d M mc ms Q pc2 ls rest k j w2) : Runs X d M mc ms Q pc ls (v :: .ref a :: rest) k j w := by
  subst hp
  subst hw
  obtain ⟨C0, T0, N0, ty0, h1, h2, h3, h4, h5, h6, h7, h8, h9⟩ := hf
  exact fun p e s m args below meth c A H locs la C P L => va_putF C.1 C.2.1 C.2.2.2.2.1 (C.ins h3) ty0 h4 h5 C.own C.K P.1 P.2.1 P.2.2 q0 he h1 kf h2 (C.use h6) (fun _ h9 => h9) h7 (C.2.2.2.2.2.2.2.1.trans hin) (h9 rfl) h8 hn hfit hl hd (fun H1 locs1 g1 g2 g3 => kk p e s m args below meth c A H1 locs1 la C ⟨g1, g2, g3⟩ L)
theorem r_putfn {X : Xn} {d : Nat} {M : XM} {mc ms : Nat} {Q : Option Value → va_W → Prop} {pc : Nat} {ls : List (Option Value)} {rest : List Value} {k j : Nat} {w : va_W} {ix ci kf a : Nat} {fs : List Value} {v : Value} {ty : FieldType} {w2 : va_W} (hf : PFn M.1.cls ix ci kf ty) (q0 : Nat) (he : w[q0]? = some (a, .inr (ci, fs))) (hn : narrow ty v = v) (hfit : fits ty v = true) (hl : kf < fs.length) (hw : w.set q0 (a, .inr (ci, fs.set kf v)) = w2) (pc2 : Nat) (hp : pc + 3 = pc2) (hd : decode M.2.1 pc = .ok (.putfield ix, 3)) (kk : Runs X d M mc ms Q pc2 ls rest k j w2) : Runs X d M mc ms Q pc ls (v :: .ref a :: rest) k j w := by
  subst hp
  subst hw
  obtain ⟨C0, T0, N0, ty0, h1, h2, h3, h4, h5, h6, h7, h8⟩ := hf
  exact fun p e s m args below meth c A H locs la C P L => va_putN C.1 C.2.1 C.2.2.2.2.1 (C.ins h3) ty0 h4 h5 C.own C.K P.1 P.2.1 P.2.2 q0 he h1 kf h2 (va_Nw.use rfl (C.nw h6)) (fun _ h9 => h9) h7 h8 hn hfit hl hd (fun H1 locs1 g1 g2 g3 => kk p e s m args below meth c A H1 locs1 la C ⟨g1, g2, g3⟩ L)
theorem r_iald {X : Xn} {d : Nat} {M : XM} {mc ms : Nat} {Q : Option Value → va_W → Prop} {pc : Nat} {ls : List (Option Value)} {rest : List Value} {k j : Nat} {w : va_W} {a n : Nat} {i : Int32} {f : Nat → Int32} (q0 : Nat) (he : w[q0]? = some (a, .inl (X.2.2.1 0, n, .inl f))) (x : Nat) (hi : i = nI x) (hx : x < n) (hn : n < 2 ^ 31) (pc2 : Nat) (hp : pc + 1 = pc2) (hd : decode M.2.1 pc = .ok (.iaload, 1)) (kk : Runs X d M mc ms Q pc2 ls (.int (f x) :: rest) k j w) : Runs X d M mc ms Q pc ls (.int i :: .ref a :: rest) k j w := by
  subst hp; subst hi
  intro p e s m args below meth c A H locs la C P L
  refine va_iald C.1 C.2.1 C.K P.1 q0 0 he rfl (vp_in_nI hx hn) hd ?_
  rw [nI_clamp (by omega)]
  exact kk p e s m args below meth c A H locs la C P L
theorem r_lald {X : Xn} {d : Nat} {M : XM} {mc ms : Nat} {Q : Option Value → va_W → Prop} {pc : Nat} {ls : List (Option Value)} {rest : List Value} {k j : Nat} {w : va_W} {a n : Nat} {i : Int32} {f : Nat → Int64} (q0 : Nat) (he : w[q0]? = some (a, .inl (X.2.2.1 1, n, .inr (.inl f)))) (x : Nat) (hi : i = nI x) (hx : x < n) (hn : n < 2 ^ 31) (pc2 : Nat) (hp : pc + 1 = pc2) (hd : decode M.2.1 pc = .ok (.laload, 1)) (kk : Runs X d M mc ms Q pc2 ls (.long (f x) :: rest) k j w) : Runs X d M mc ms Q pc ls (.int i :: .ref a :: rest) k j w := by
  subst hp; subst hi
  intro p e s m args below meth c A H locs la C P L
  refine va_lald C.1 C.2.1 C.K P.1 q0 1 he rfl (vp_in_nI hx hn) hd ?_
  rw [nI_clamp (by omega)]
  exact kk p e s m args below meth c A H locs la C P L
theorem r_zald {X : Xn} {d : Nat} {M : XM} {mc ms : Nat} {Q : Option Value → va_W → Prop} {pc : Nat} {ls : List (Option Value)} {rest : List Value} {k j : Nat} {w : va_W} {a n : Nat} {i : Int32} {f : Nat → Int32} (q0 : Nat) (he : w[q0]? = some (a, .inl (X.2.2.1 2, n, .inl f))) (x : Nat) (hi : i = nI x) (hx : x < n) (hn : n < 2 ^ 31) (pc2 : Nat) (hp : pc + 1 = pc2) (hd : decode M.2.1 pc = .ok (.baload, 1)) (kk : Runs X d M mc ms Q pc2 ls (.int (f x) :: rest) k j w) : Runs X d M mc ms Q pc ls (.int i :: .ref a :: rest) k j w := by
  subst hp; subst hi
  intro p e s m args below meth c A H locs la C P L
  refine va_zald C.1 C.2.1 C.K P.1 q0 2 he rfl (vp_in_nI hx hn) hd ?_
  rw [nI_clamp (by omega)]
  exact kk p e s m args below meth c A H locs la C P L
theorem r_iast {X : Xn} {d : Nat} {M : XM} {mc ms : Nat} {Q : Option Value → va_W → Prop} {pc : Nat} {ls : List (Option Value)} {rest : List Value} {k j : Nat} {w : va_W} {a n : Nat} {i : Int32} {f : Nat → Int32} {y : Int32} {w2 : va_W} (q0 : Nat) (he : w[q0]? = some (a, .inl (X.2.2.1 0, n, .inl f))) (x : Nat) (hi : i = nI x) (hx : x < n) (hn : n < 2 ^ 31) (hw : w.set q0 (a, .inl (X.2.2.1 0, n, .inl (upd f x y))) = w2) (pc2 : Nat) (hp : pc + 1 = pc2) (hd : decode M.2.1 pc = .ok (.iastore, 1)) (kk : Runs X d M mc ms Q pc2 ls rest k j w2) : Runs X d M mc ms Q pc ls (.int y :: .int i :: .ref a :: rest) k j w := by
  subst hp; subst hi; subst hw
  intro p e s m args below meth c A H locs la C P L
  refine va_iast C.1 C.2.1 C.K P.1 P.2.1 P.2.2 q0 0 he rfl (vp_in_nI hx hn) hd ?_
  rw [nI_clamp (by omega)]
  exact fun H1 locs1 g1 g2 g3 => kk p e s m args below meth c A H1 locs1 la C ⟨g1, g2, g3⟩ L
theorem r_last {X : Xn} {d : Nat} {M : XM} {mc ms : Nat} {Q : Option Value → va_W → Prop} {pc : Nat} {ls : List (Option Value)} {rest : List Value} {k j : Nat} {w : va_W} {a n : Nat} {i : Int32} {f : Nat → Int64} {y : Int64} {w2 : va_W} (q0 : Nat) (he : w[q0]? = some (a, .inl (X.2.2.1 1, n, .inr (.inl f)))) (x : Nat) (hi : i = nI x) (hx : x < n) (hn : n < 2 ^ 31) (hw : w.set q0 (a, .inl (X.2.2.1 1, n, .inr (.inl (vp_updL f x y)))) = w2) (pc2 : Nat) (hp : pc + 1 = pc2) (hd : decode M.2.1 pc = .ok (.lastore, 1)) (kk : Runs X d M mc ms Q pc2 ls rest k j w2) : Runs X d M mc ms Q pc ls (.long y :: .int i :: .ref a :: rest) k j w := by
  subst hp; subst hi; subst hw
  intro p e s m args below meth c A H locs la C P L
  refine va_last C.1 C.2.1 C.K P.1 P.2.1 P.2.2 q0 1 he rfl (vp_in_nI hx hn) hd ?_
  rw [nI_clamp (by omega)]
  exact fun H1 locs1 g1 g2 g3 => kk p e s m args below meth c A H1 locs1 la C ⟨g1, g2, g3⟩ L
theorem r_zast {X : Xn} {d : Nat} {M : XM} {mc ms : Nat} {Q : Option Value → va_W → Prop} {pc : Nat} {ls : List (Option Value)} {rest : List Value} {k j : Nat} {w : va_W} {a n : Nat} {i : Int32} {f : Nat → Int32} {y : Int32} {w2 : va_W} (q0 : Nat) (he : w[q0]? = some (a, .inl (X.2.2.1 2, n, .inl f))) (x : Nat) (hi : i = nI x) (hx : x < n) (hn : n < 2 ^ 31) (hy : y = 0 ∨ y = 1) (hw : w.set q0 (a, .inl (X.2.2.1 2, n, .inl (upd f x y))) = w2) (pc2 : Nat) (hp : pc + 1 = pc2) (hd : decode M.2.1 pc = .ok (.bastore, 1)) (kk : Runs X d M mc ms Q pc2 ls rest k j w2) : Runs X d M mc ms Q pc ls (.int y :: .int i :: .ref a :: rest) k j w := by
  subst hp; subst hi; subst hw
  intro p e s m args below meth c A H locs la C P L
  refine va_zast C.1 C.2.1 C.K P.1 P.2.1 P.2.2 q0 2 he rfl (vp_in_nI hx hn) hd ?_
  have hz : vp_nar .boolean y = y := by rcases hy with rfl | rfl <;> decide
  rw [nI_clamp (by omega), hz]
  exact fun H1 locs1 g1 g2 g3 => kk p e s m args below meth c A H1 locs1 la C ⟨g1, g2, g3⟩ L
theorem r_alenI {X : Xn} {d : Nat} {M : XM} {mc ms : Nat} {Q : Option Value → va_W → Prop} {pc : Nat} {ls : List (Option Value)} {rest : List Value} {k j : Nat} {w : va_W} {a n : Nat} {f : Nat → Int32} (q0 : Nat) (he : w[q0]? = some (a, .inl (X.2.2.1 0, n, .inl f))) (pc2 : Nat) (hp : pc + 1 = pc2) (hd : decode M.2.1 pc = .ok (.arraylength, 1)) (kk : Runs X d M mc ms Q pc2 ls (.int (nI n) :: rest) k j w) : Runs X d M mc ms Q pc ls (.ref a :: rest) k j w := by
  subst hp
  exact fun p e s m args below meth c A H locs la C P L => va_alen C.1 C.2.1 C.K P.1 q0 0 he rfl rfl hd (kk p e s m args below meth c A H locs la C P L)
theorem r_alenJ {X : Xn} {d : Nat} {M : XM} {mc ms : Nat} {Q : Option Value → va_W → Prop} {pc : Nat} {ls : List (Option Value)} {rest : List Value} {k j : Nat} {w : va_W} {a n : Nat} {f : Nat → Int64} (q0 : Nat) (he : w[q0]? = some (a, .inl (X.2.2.1 1, n, .inr (.inl f)))) (pc2 : Nat) (hp : pc + 1 = pc2) (hd : decode M.2.1 pc = .ok (.arraylength, 1)) (kk : Runs X d M mc ms Q pc2 ls (.int (nI n) :: rest) k j w) : Runs X d M mc ms Q pc ls (.ref a :: rest) k j w := by
  subst hp
  exact fun p e s m args below meth c A H locs la C P L => va_alen C.1 C.2.1 C.K P.1 q0 1 he rfl rfl hd (kk p e s m args below meth c A H locs la C P L)
theorem r_alenZ {X : Xn} {d : Nat} {M : XM} {mc ms : Nat} {Q : Option Value → va_W → Prop} {pc : Nat} {ls : List (Option Value)} {rest : List Value} {k j : Nat} {w : va_W} {a n : Nat} {f : Nat → Int32} (q0 : Nat) (he : w[q0]? = some (a, .inl (X.2.2.1 2, n, .inl f))) (pc2 : Nat) (hp : pc + 1 = pc2) (hd : decode M.2.1 pc = .ok (.arraylength, 1)) (kk : Runs X d M mc ms Q pc2 ls (.int (nI n) :: rest) k j w) : Runs X d M mc ms Q pc ls (.ref a :: rest) k j w := by
  subst hp
  exact fun p e s m args below meth c A H locs la C P L => va_alen C.1 C.2.1 C.K P.1 q0 2 he rfl rfl hd (kk p e s m args below meth c A H locs la C P L)
theorem r_alenE {X : Xn} {d : Nat} {M : XM} {mc ms : Nat} {Q : Option Value → va_W → Prop} {pc : Nat} {ls : List (Option Value)} {rest : List Value} {k j : Nat} {w : va_W} {a n : Nat} {f : Nat → Option Nat} (q0 : Nat) (he : w[q0]? = some (a, .inl (X.2.2.1 3, n, .inr (.inr (.inr (.inr f)))))) (pc2 : Nat) (hp : pc + 1 = pc2) (hd : decode M.2.1 pc = .ok (.arraylength, 1)) (kk : Runs X d M mc ms Q pc2 ls (.int (nI n) :: rest) k j w) : Runs X d M mc ms Q pc ls (.ref a :: rest) k j w := by
  subst hp
  exact fun p e s m args below meth c A H locs la C P L => va_alen C.1 C.2.1 C.K P.1 q0 3 he rfl rfl hd (kk p e s m args below meth c A H locs la C P L)
theorem r_aaldE {X : Xn} {d : Nat} {M : XM} {mc ms : Nat} {Q : Option Value → va_W → Prop} {pc : Nat} {ls : List (Option Value)} {rest : List Value} {k j : Nat} {w : va_W} {a n : Nat} {i : Int32} {f : Nat → Option Nat} (q0 : Nat) (he : w[q0]? = some (a, .inl (X.2.2.1 3, n, .inr (.inr (.inr (.inr f)))))) (x y : Nat) (hi : i = nI x) (hx : x < n) (hn : n < 2 ^ 31) (hy : f x = some y) (pc2 : Nat) (hp : pc + 1 = pc2) (hd : decode M.2.1 pc = .ok (.aaload, 1)) (kk : Runs X d M mc ms Q pc2 ls (.ref y :: rest) k j w) : Runs X d M mc ms Q pc ls (.int i :: .ref a :: rest) k j w := by
  subst hp; subst hi
  intro p e s m args below meth c A H locs la C P L
  refine va_aldq C.1 C.2.1 C.K P.1 q0 3 (C := "HandshakeBinds$Exchange") he rfl (vp_in_nI hx hn) hd ?_
  rw [nI_clamp (by omega), hy]
  exact kk p e s m args below meth c A H locs la C P L
theorem r_alenT {X : Xn} {d : Nat} {M : XM} {mc ms : Nat} {Q : Option Value → va_W → Prop} {pc : Nat} {ls : List (Option Value)} {rest : List Value} {k j : Nat} {w : va_W} {a n : Nat} {f : Nat → Option Nat} (q0 : Nat) (he : w[q0]? = some (a, .inl (X.2.2.1 4, n, .inr (.inr (.inr (.inr f)))))) (pc2 : Nat) (hp : pc + 1 = pc2) (hd : decode M.2.1 pc = .ok (.arraylength, 1)) (kk : Runs X d M mc ms Q pc2 ls (.int (nI n) :: rest) k j w) : Runs X d M mc ms Q pc ls (.ref a :: rest) k j w := by
  subst hp
  exact fun p e s m args below meth c A H locs la C P L => va_alen C.1 C.2.1 C.K P.1 q0 4 he rfl rfl hd (kk p e s m args below meth c A H locs la C P L)
theorem r_aaldT {X : Xn} {d : Nat} {M : XM} {mc ms : Nat} {Q : Option Value → va_W → Prop} {pc : Nat} {ls : List (Option Value)} {rest : List Value} {k j : Nat} {w : va_W} {a n : Nat} {i : Int32} {f : Nat → Option Nat} (q0 : Nat) (he : w[q0]? = some (a, .inl (X.2.2.1 4, n, .inr (.inr (.inr (.inr f)))))) (x y : Nat) (hi : i = nI x) (hx : x < n) (hn : n < 2 ^ 31) (hy : f x = some y) (pc2 : Nat) (hp : pc + 1 = pc2) (hd : decode M.2.1 pc = .ok (.aaload, 1)) (kk : Runs X d M mc ms Q pc2 ls (.ref y :: rest) k j w) : Runs X d M mc ms Q pc ls (.int i :: .ref a :: rest) k j w := by
  subst hp; subst hi
  intro p e s m args below meth c A H locs la C P L
  refine va_aldq C.1 C.2.1 C.K P.1 q0 4 (C := "HandshakeBinds$Tape") he rfl (vp_in_nI hx hn) hd ?_
  rw [nI_clamp (by omega), hy]
  exact kk p e s m args below meth c A H locs la C P L
end
section
/-! CALLS: a part of the world goes to the callee, and comes back to its places -/
def Xput : va_W → List Nat → va_W → va_W
  | w, i :: is, q :: qs => Xput (w.set i q) is qs
  | w, _, _ => w
theorem Xput_len : ∀ (is : List Nat) (qs w : va_W), (Xput w is qs).length = w.length
  | [], qs, w => by cases qs <;> rfl
  | i :: is, [], w => rfl
  | i :: is, q :: qs, w => by rw [Xput, Xput_len is qs (w.set i q), List.length_set]
theorem Xput_get : ∀ (is : List Nat) (qs w : va_W), va_nd is = true → qs.length = is.length → ∀ (k : Nat) (q : Nat × va_E), (Xput w is qs)[k]? = some q → (k ∉ is ∧ w[k]? = some q) ∨ ∃ j : Nat, is[j]? = some k ∧ qs[j]? = some q
  | [], qs, w, _, _, k, q, h => Or.inl ⟨List.not_mem_nil, by cases qs <;> exact h⟩
  | i :: is, [], w, _, hl, _, _, _ => by simp at hl
  | i :: is, q0 :: qs, w, hn, hl, k, q, h => by
    simp only [va_nd, Bool.and_eq_true, decide_eq_true_eq] at hn
    rcases Xput_get is qs (w.set i q0) hn.2 (by simpa using hl) k q h with ⟨h1, h2⟩ | ⟨j, h1, h2⟩
    · by_cases hk : k = i
      · subst hk
        by_cases hlt : k < w.length
        · rw [List.getElem?_set_self hlt] at h2
          exact Or.inr ⟨0, rfl, h2⟩
        · rw [List.getElem?_eq_none (by rw [List.length_set]; omega)] at h2
          cases h2
      · rw [List.getElem?_set_ne (Ne.symm hk)] at h2
        refine Or.inl ⟨fun hm => ?_, h2⟩
        rcases List.mem_cons.mp hm with h3 | h3
        · exact hk h3
        · exact h1 h3
    · exact Or.inr ⟨j + 1, h1, h2⟩
theorem Xjoin {A0 : Nat → Prop} {D : va_G} {ws wc w1 w2 : va_W} {H H1 : Heap} (hP : va_P D CLS ws H) (hD : va_D A0 ws) (is : List Nat) (hC : is.map (fun i => ws[i]?) = wc.map some) (hn : va_nd is = true) (hk : ∀ q : Nat, q < H.size → ¬ va_A wc H.size q → H1[q]? = H[q]?) (hF : ∀ q, va_A wc H.size q → A0 q) (hP1 : va_P D CLS (w1 ++ w2) H1) (hD1 : va_D (va_A wc H.size) (w1 ++ w2)) (ha : w1.map Prod.fst = wc.map Prod.fst) : va_P D CLS (Xput ws is w1 ++ w2) H1 ∧ va_D A0 (Xput ws is w1 ++ w2) := by
  have hlw : w1.length = wc.length := by have := congrArg List.length ha; simpa using this
  have hli : is.length = wc.length := by have := congrArg List.length hC; simpa using this
  have at1 : ∀ (j kk : Nat), is[j]? = some kk → ∃ q, wc[j]? = some q ∧ ws[kk]? = some q := by
    intro j kk hj
    have h1 : (wc.map some)[j]? = some (ws[kk]?) := by rw [← hC, List.getElem?_map, hj]; rfl
    rw [List.getElem?_map] at h1
    cases hw : wc[j]? with
    | none => rw [hw] at h1; cases h1
    | some q => rw [hw] at h1; exact ⟨q, rfl, (Option.some.inj h1).symm⟩
  have at2 : ∀ (j : Nat) (q : Nat × va_E), wc[j]? = some q → ∃ kk, is[j]? = some kk ∧ ws[kk]? = some q := by
    intro j q hq
    have h1 : (is.map (fun i => ws[i]?))[j]? = some (some q) := by rw [hC, List.getElem?_map, hq]; rfl
    rw [List.getElem?_map] at h1
    cases hi : is[j]? with
    | none => rw [hi] at h1; cases h1
    | some i => rw [hi] at h1; exact ⟨i, rfl, Option.some.inj h1⟩
  have fst1 : ∀ (j : Nat) (q : Nat × va_E), w1[j]? = some q → ∃ q0, wc[j]? = some q0 ∧ q0.1 = q.1 := by
    intro j q hq
    have h1 : (wc.map Prod.fst)[j]? = some q.1 := by rw [← ha, List.getElem?_map, hq]; rfl
    rw [List.getElem?_map] at h1
    cases hw : wc[j]? with
    | none => rw [hw] at h1; cases h1
    | some q0 => rw [hw] at h1; exact ⟨q0, rfl, Option.some.inj h1⟩
  have hlen : (Xput ws is w1).length = ws.length := Xput_len is w1 ws
  have key : ∀ (kk : Nat) (q : Nat × va_E), (Xput ws is w1 ++ w2)[kk]? = some q → (kk < ws.length ∧ (∃ q0, ws[kk]? = some q0 ∧ q0.1 = q.1) ∧ ((¬ va_A wc H.size q.1 ∧ ws[kk]? = some q) ∨ ∃ j : Nat, (w1 ++ w2)[j]? = some q)) ∨ (ws.length ≤ kk ∧ H.size ≤ q.1 ∧ (w1 ++ w2)[w1.length + (kk - ws.length)]? = some q) := by
    intro kk q hq
    by_cases hl : kk < ws.length
    · rw [List.getElem?_append_left (by rw [hlen]; exact hl)] at hq
      refine Or.inl ⟨hl, ?_⟩
      rcases Xput_get is w1 ws hn (by omega) kk q hq with ⟨h1, h2⟩ | ⟨j, h1, h2⟩
      · refine ⟨⟨q, h2, rfl⟩, Or.inl ⟨fun h => ?_, h2⟩⟩
        have hlt := (hP kk q h2).lt
        rcases h with ⟨k2, e, h⟩ | h
        · obtain ⟨j, h3, h4⟩ := at2 k2 (q.1, e) h
          have hij := hD.1 kk j q (q.1, e) h2 h4 rfl
          subst hij
          exact h1 (List.mem_of_getElem? h3)
        · omega
      · obtain ⟨q0, h3, h4⟩ := fst1 j q h2
        obtain ⟨q1, h5, h6⟩ := at1 j kk h1
        rw [h3] at h5; cases h5
        have hj : j < w1.length := (List.getElem?_eq_some_iff.mp h2).1
        exact ⟨⟨q0, h6, h4⟩, Or.inr ⟨j, by rw [List.getElem?_append_left hj]; exact h2⟩⟩
    · rw [List.getElem?_append_right (by omega), hlen] at hq
      have hq' : (w1 ++ w2)[w1.length + (kk - ws.length)]? = some q := by rw [List.getElem?_append_right (by omega)]; simpa using hq
      refine Or.inr ⟨by omega, ?_, hq'⟩
      rcases hD1.2 _ _ hq' with ⟨k2, e, h⟩ | h
      · exfalso
        have hk2 : k2 < wc.length := (List.getElem?_eq_some_iff.mp h).1
        have h3 : w1[k2]? = some (w1[k2]'(by omega)) := List.getElem?_eq_getElem (by omega)
        obtain ⟨q0, h4, h5⟩ := fst1 k2 _ h3
        rw [h] at h4; cases h4
        have h6 := hD1.1 k2 (w1.length + (kk - ws.length)) _ q (by rw [List.getElem?_append_left (by omega)]; exact h3) hq' h5.symm
        omega
      · exact h
  refine ⟨fun kk q hq => ?_, fun i j x y hx hy hxy => ?_, fun kk q hq => ?_⟩
  · rcases key kk q hq with ⟨h1, ⟨q0, h2, h3⟩, ⟨h4, h5⟩ | ⟨jj, h4⟩⟩ | ⟨h1, h2, h3⟩
    · exact (hP kk q h5).kept (hk q.1 (hP kk q h5).lt h4)
    · exact hP1 jj q h4
    · exact hP1 _ q h3
  · rcases key i x hx with ⟨h1, ⟨q0, h2, h3⟩, -⟩ | ⟨h1, h2, h3⟩ <;> rcases key j y hy with ⟨g1, ⟨q1, g2, g3⟩, -⟩ | ⟨g1, g2, g3⟩
    · exact hD.1 i j q0 q1 h2 g2 (h3.trans (hxy.trans g3.symm))
    · have := (hP i q0 h2).lt; omega
    · have := (hP j q1 g2).lt; omega
    · have := hD1.1 _ _ x y h3 g3 hxy; omega
  · rcases key kk q hq with ⟨h1, ⟨q0, h2, h3⟩, -⟩ | ⟨h1, h2, h3⟩
    · rw [← h3]; exact hD.2 kk q0 h2
    · exact hF q.1 (hD1.2 _ _ h3)
section CALLC
variable {X : Xn} {d : Nat} {M : XM} {mc ms : Nat} {Q : Option Value → va_W → Prop} {pc : Nat} {ls : List (Option Value)} {rest st0 : List Value} {k j : Nat} {w : va_W}
variable {p : Program} {e : Env} {s : State} {m : MethodId} {args : Array Value} {below : List Frame} {meth : Method} {c : Code} {A : Nat → Prop} {H : Heap} {locs : List Loc} {la : Array Slot}
theorem X_call (C : Cx X M p s m args meth c A) (P : Ch X s A H locs w) (L : Xhas la M.2.2.1 ls) {wc : va_W} (is : List Nat) (hC : is.map (fun i => w[i]?) = wc.map some) (hn : va_nd is = true) {Q2 : Option Value → va_W → Prop} {mc2 ms2 : Nat} {av : Array Value}
    (hr : va_Run p X.1 e (Xrm d mc ms) s m args below meth c H locs k j mc2 ms2 (F0 m pc la st0) rest (Xpost X (va_A wc H.size) Q2 av) (va_A wc H.size))
    (kk : ∀ v w', Q2 v w' → ∃ w1 w2, w' = w1 ++ w2 ∧ w1.map Prod.fst = wc.map Prod.fst ∧ Runs X d M mc ms Q (pc + 3) ls (v.toList ++ rest) (k + mc2) (j + ms2) (Xput w is w1 ++ w2)) :
    W p X.1 e (Xrm d mc ms) s m args below meth c H locs k j (MQ below (Xpost X A Q) args s mc ms A) (F0 m pc la st0) := by
  intro T hT XX
  obtain ⟨v, st₀, t, T', L1, h0, X', hL, e1, e2, ⟨⟨v2, w', hv, hq, hP1, hD1⟩, hz, hk⟩, stp⟩ := hr T hT XX
  cases hv
  rw [h0] at hz hk
  obtain ⟨w1, w2, rfl, ha, kk⟩ := kk v w' hq
  have hF := va_free P.2.1 P.2.2 C.new is hC
  obtain ⟨g1, g2⟩ := Xjoin (w1 := w1) (w2 := w2) P.1 P.2.1 is hC hn hk hF hP1 hD1 ha
  have hS := P.2.2
  have hT1 : T'.heap = t.heap := e1
  have hS2 : va_S A s.heap T'.heap (locs ++ L1) := ⟨Nat.le_trans hS.1 (by rw [e1]; exact hz), fun q h1 h2 => by
      rw [e1, hk q (Nat.lt_of_lt_of_le h1 hS.1) (fun z => h2 (hF q z))]; exact hS.2.1 q h1 h2, fun q hq => by
      rcases List.mem_append.mp hq with h | h
      · exact hS.2.2 q h
      · exact hF _ (hL q h)⟩
  obtain ⟨t2, a1, b1⟩ := kk p e s m args below meth c A T'.heap (locs ++ L1) la C ⟨by rw [e1]; exact g1, g2, hS2⟩ L T' rfl X'
  exact ⟨t2, stp t2 a1, b1⟩
theorem Xblind {av : List Value} {sz : Nat} {wc : va_W} : FrameBlind (va_Pc av (fun U => U.heap.size = sz ∧ Xpre X wc U)) := by
  intro a U g mk ⟨h1, h2, hP, hK, hD, hSt⟩
  exact ⟨h1, h2, hP, va_K.moved (u := U) (U := U.calling g mk a) (Vm.Alike.refl U.vm) hK, hD, Xst.same (s := U) (U := U.calling g mk a) rfl hSt⟩
theorem Xgive (C : Cx X M p s m args meth c A) (P : Ch X s A H locs w) {wc : va_W} (is : List Nat) (hC : is.map (fun i => w[i]?) = wc.map some) (hn : va_nd is = true) (av : List Value) : ∀ U : State, U.heap = H → s.WarmedH U.vm → va_Pc av (fun U => U.heap.size = H.size ∧ Xpre X wc U) av.toArray U := by
  intro U hU hW
  have hf : is.filterMap (fun i => w[i]?) = wc := by
    have h2 : ∀ (l : List Nat) (l2 : va_W), l.map (fun i => w[i]?) = l2.map some → l.filterMap (fun i => w[i]?) = l2 := by
      intro l
      induction l with
      | nil => intro l2 h; cases l2 with
        | nil => rfl
        | cons _ _ => cases h
      | cons a l ih => intro l2 h; cases l2 with
        | nil => cases h
        | cons b l2 =>
          simp only [List.map_cons, List.cons.injEq] at h
          rw [List.filterMap_cons, h.1]
          simp only [ih l2 h.2]
    exact h2 is wc hC
  refine ⟨rfl, by rw [hU], by rw [hU]; exact P.1.sub is hf, C.K.moved hW.alike, (P.2.1.sub is hn hC).weaken (fun _ _ _ _ => trivial), ?_⟩
  rw [hU]
  exact ((C.st.kept P.2.2.2.1).narrow (va_free P.2.1 P.2.2 C.new is hC)).warm hW
end CALLC
/-- the links of a call -/
def LCm (M2 : XM) (np : Nat) : Prop := Cond.initialized M2.1.cls ∈ TB ∧ Cond.code M2.1 M2.2.1 M2.2.2.1 M2.2.2.2 ∈ TB ∧ (M2.1.cls ≠ "java/lang/invoke/MethodHandle" ∧ M2.1.cls ≠ "java/lang/invoke/VarHandle" ∧ (parseMethodDescriptor M2.1.desc).map (fun d => d.parameters.length) = some np) ∧ M2.2.2.1 ≤ 21
def LVt (M2 : XM) (np : Nat) : Prop := LCm M2 np ∧ Cond.instanceMethod M2.1 ∈ TB ∧ Cond.selects M2.1.cls M2.1 M2.1 ∈ TB
def LSt (M2 : XM) (np : Nat) : Prop := LCm M2 np ∧ Cond.static M2.1 ∈ TB
def LIn (M2 : XM) (np : Nat) : Prop := LCm M2 np ∧ Cond.instanceMethod M2.1 ∈ TB ∧ M2.1.name = "<init>" ∧ M2.2.2.2 = none
theorem Xgood {M M2 : XM} {np : Nat} (h : LCm M2 np) {pre : List Cond} (hp : ∀ q ∈ pre, q ∈ TB) : GoodIn (Xws M) (pre ++ Xws M2) := by
  intro q hq
  rcases List.mem_append.mp hq with h1 | h1
  · exact ⟨List.mem_cons_of_mem _ (hp q h1), good_of_word (TB_good q (hp q h1))⟩
  · rcases List.mem_cons.mp h1 with h2 | h2
    · subst h2; exact ⟨List.mem_cons_of_mem _ h.2.1, good_of_word (TB_good _ h.2.1)⟩
    · exact ⟨List.mem_cons_of_mem _ h2, good_of_word (TB_good q h2)⟩
theorem Xgood0 {M M2 : XM} {np : Nat} (h : LCm M2 np) : GoodIn (Xws M) (Xws M2) := Xgood (pre := []) h (fun _ h => absurd h List.not_mem_nil)
theorem Xroom {d d2 mc ms mc2 ms2 n : Nat} (h : d2 + 1 ≤ d) (hn : n ≤ 21) : (Xrm d2 mc2 ms2).frames + 1 ≤ (Xrm d mc ms).frames ∧ 8 + (n + 11) + (Xrm d2 mc2 ms2).locals ≤ (Xrm d mc ms).locals := ⟨h, by show 8 + (n + 11) + 40 * d2 ≤ 40 * d; omega⟩
end
section
/-! ROWS of calls and returns over Runs, by program -/
theorem Xfm {w wc : va_W} : ∀ {is : List Nat}, is.map (fun i => w[i]?) = wc.map some → is.filterMap (fun i => w[i]?) = wc := by
  have h2 : ∀ (l : List Nat) (l2 : va_W), l.map (fun i => w[i]?) = l2.map some → l.filterMap (fun i => w[i]?) = l2 := by
    intro l
    induction l with
    | nil => intro l2 h; cases l2 with
      | nil => rfl
      | cons _ _ => cases h
    | cons a l ih => intro l2 h; cases l2 with
      | nil => cases h
      | cons b l2 =>
        simp only [List.map_cons, List.cons.injEq] at h
        rw [List.filterMap_cons, h.1]
        simp only [ih l2 h.2]
  exact fun {is} h => h2 is wc h
theorem r_callV {X : Xn} {d : Nat} {M : XM} {mc ms : Nat} {Q : Option Value → va_W → Prop} {pc : Nat} {ls : List (Option Value)} {rest : List Value} {k j : Nat} {w : va_W} {M2 : XM} {ix np d2 mc2 ms2 : Nat} {Q2 : Option Value → va_W → Prop} {wc : va_W} {As : List Value} {st : List Value} {b : Nat} (hlk : LVt M2 np) (hln : Cond.methodLink M.1.cls ix M2.1 ∈ TB) (hM : Does X d2 M2 (.ref b :: As) wc mc2 ms2 Q2) (hd2 : d2 + 1 ≤ d) (hnp : As.length = np) (hst : As.reverse ++ .ref b :: rest = st) (hcat : (rest.map fun v => v.category).sum ≤ 8) (hk : k + mc2 ≤ mc) (hj : j + ms2 ≤ ms) (is : List Nat) (hC : is.map (fun i => w[i]?) = wc.map some) (hnd : va_nd is = true) {ci q0 : Nat} {fs : List Value} {T0 : u_T} {N0 : Nat} (hci : CLS[ci]? = some (M2.1.cls, T0, N0)) (hrc : wc[q0]? = some (b, .inr (ci, fs))) (pc2 : Nat) (hp : pc + 3 = pc2) (hd : decode M.2.1 pc = .ok (.invokevirtual ix, 3))
    (kk : ∀ v w', Q2 v w' → ∃ w1 w2, w' = w1 ++ w2 ∧ w1.map Prod.fst = wc.map Prod.fst ∧ Runs X d M mc ms Q pc2 ls (v.toList ++ rest) (k + mc2) (j + ms2) (Xput w is w1 ++ w2)) : Runs X d M mc ms Q pc ls st k j w := by
  subst hp; subst hst
  intro p e s m args below meth c A H locs la C P L
  have hsz := L.1
  have fixed : CallFix p m c M.2.1 M.2.2.1 s args (Xws M) M.1.cls := ⟨C.1, C.2.1, C.2.2.1, C.own, C.2.2.2.2.1⟩
  exact X_call C P L is hC hnd (va_runV (As := As) (rest := rest) fixed (hM H.size) (cwV np C.2.2.2.2.1 (Xgood (pre := [.methodLink M.1.cls ix M2.1, .instanceMethod M2.1, .selects M2.1.cls M2.1 M2.1, .initialized M2.1.cls]) hlk.1 (fun q hq => by rcases List.mem_cons.mp hq with rfl | hq; exact hln; rcases List.mem_cons.mp hq with rfl | hq; exact hlk.2.1; rcases List.mem_cons.mp hq with rfl | hq; exact hlk.2.2; rcases List.mem_cons.mp hq with rfl | hq; exact hlk.1.1; exact absurd hq List.not_mem_nil)) rfl rfl rfl ⟨rfl, hlk.1.2.2.1⟩ (Xroom hd2 hlk.1.2.2.2)) ⟨Xblind, by obtain ⟨cell, g1, g2, g3⟩ := va_recv (C.K) (P.1.sub is (Xfm hC)) hci hrc; exact ⟨cell, g1, g2, g3⟩, Xgive C P is hC hnd (.ref b :: As)⟩ rfl hnp (by show la.size = _; exact hsz) rfl (lv_room hcat) hd ⟨hk, hj⟩) kk
theorem r_callVn {X : Xn} {d : Nat} {M : XM} {mc ms : Nat} {Q : Option Value → va_W → Prop} {pc : Nat} {ls : List (Option Value)} {rest : List Value} {k j : Nat} {w : va_W} {M2 : XM} {ix np d2 mc2 ms2 : Nat} {Q2 : Option Value → va_W → Prop} {wc : va_W} {As : List Value} {st : List Value} {b : Nat} (hlk : LVt M2 np) (hln : Cond.methodLinkNest M.1.cls ix M2.1 "HandshakeBinds" ∈ NW) (hM : Does X d2 M2 (.ref b :: As) wc mc2 ms2 Q2) (hd2 : d2 + 1 ≤ d) (hnp : As.length = np) (hst : As.reverse ++ .ref b :: rest = st) (hcat : (rest.map fun v => v.category).sum ≤ 8) (hk : k + mc2 ≤ mc) (hj : j + ms2 ≤ ms) (is : List Nat) (hC : is.map (fun i => w[i]?) = wc.map some) (hnd : va_nd is = true) {ci q0 : Nat} {fs : List Value} {T0 : u_T} {N0 : Nat} (hci : CLS[ci]? = some (M2.1.cls, T0, N0)) (hrc : wc[q0]? = some (b, .inr (ci, fs))) (pc2 : Nat) (hp : pc + 3 = pc2) (hd : decode M.2.1 pc = .ok (.invokevirtual ix, 3))
    (kk : ∀ v w', Q2 v w' → ∃ w1 w2, w' = w1 ++ w2 ∧ w1.map Prod.fst = wc.map Prod.fst ∧ Runs X d M mc ms Q pc2 ls (v.toList ++ rest) (k + mc2) (j + ms2) (Xput w is w1 ++ w2)) : Runs X d M mc ms Q pc ls st k j w := by
  subst hp; subst hst
  intro p e s m args below meth c A H locs la C P L
  have hsz := L.1
  have fixed : CallFix p m c M.2.1 M.2.2.1 s args (Xws M) M.1.cls := ⟨C.1, C.2.1, C.2.2.1, C.own, C.2.2.2.2.1⟩
  exact X_call C P L is hC hnd (va_runVN (As := As) (rest := rest) fixed (hM H.size) (⟨va_cnB np C.2.2.2.2.1 (Xgood0 hlk.1) rfl rfl rfl (C.nw hln) (C.use hlk.1.1) hlk.1.2.2.1 (Xroom hd2 hlk.1.2.2.2), C.use hlk.2.1, C.use hlk.2.2⟩) ⟨Xblind, by obtain ⟨cell, g1, g2, g3⟩ := va_recv (C.K) (P.1.sub is (Xfm hC)) hci hrc; exact ⟨cell, g1, g2, g3⟩, Xgive C P is hC hnd (.ref b :: As)⟩ rfl hnp (by show la.size = _; exact hsz) rfl (lv_room hcat) hd ⟨hk, hj⟩) kk
theorem r_callS {X : Xn} {d : Nat} {M : XM} {mc ms : Nat} {Q : Option Value → va_W → Prop} {pc : Nat} {ls : List (Option Value)} {rest : List Value} {k j : Nat} {w : va_W} {M2 : XM} {ix np d2 mc2 ms2 : Nat} {Q2 : Option Value → va_W → Prop} {wc : va_W} {As : List Value} {st : List Value}  (hlk : LSt M2 np) (hln : Cond.methodLink M.1.cls ix M2.1 ∈ TB) (hM : Does X d2 M2 As wc mc2 ms2 Q2) (hd2 : d2 + 1 ≤ d) (hnp : As.length = np) (hst : As.reverse ++ rest = st) (hcat : (rest.map fun v => v.category).sum ≤ 8) (hk : k + mc2 ≤ mc) (hj : j + ms2 ≤ ms) (is : List Nat) (hC : is.map (fun i => w[i]?) = wc.map some) (hnd : va_nd is = true)  (pc2 : Nat) (hp : pc + 3 = pc2) (hd : decode M.2.1 pc = .ok (.invokestatic ix, 3))
    (kk : ∀ v w', Q2 v w' → ∃ w1 w2, w' = w1 ++ w2 ∧ w1.map Prod.fst = wc.map Prod.fst ∧ Runs X d M mc ms Q pc2 ls (v.toList ++ rest) (k + mc2) (j + ms2) (Xput w is w1 ++ w2)) : Runs X d M mc ms Q pc ls st k j w := by
  subst hp; subst hst
  intro p e s m args below meth c A H locs la C P L
  have hsz := L.1
  have fixed : CallFix p m c M.2.1 M.2.2.1 s args (Xws M) M.1.cls := ⟨C.1, C.2.1, C.2.2.1, C.own, C.2.2.2.2.1⟩
  exact X_call C P L is hC hnd (va_runS (As := As) (rest := rest) fixed (hM H.size) (va_cwS np C.2.2.2.2.1 (Xgood (pre := [.methodLink M.1.cls ix M2.1, .static M2.1, .initialized M2.1.cls]) hlk.1 (fun q hq => by rcases List.mem_cons.mp hq with rfl | hq; exact hln; rcases List.mem_cons.mp hq with rfl | hq; exact hlk.2; rcases List.mem_cons.mp hq with rfl | hq; exact hlk.1.1; exact absurd hq List.not_mem_nil)) rfl rfl rfl hlk.1.2.2.1 (Xroom hd2 hlk.1.2.2.2)) ⟨Xblind, Xgive C P is hC hnd As⟩ rfl hnp (by show la.size = _; exact hsz) rfl (lv_room hcat) hd ⟨hk, hj⟩) kk
theorem r_callSn {X : Xn} {d : Nat} {M : XM} {mc ms : Nat} {Q : Option Value → va_W → Prop} {pc : Nat} {ls : List (Option Value)} {rest : List Value} {k j : Nat} {w : va_W} {M2 : XM} {ix np d2 mc2 ms2 : Nat} {Q2 : Option Value → va_W → Prop} {wc : va_W} {As : List Value} {st : List Value}  (hlk : LSt M2 np) (hln : Cond.methodLinkNest M.1.cls ix M2.1 "HandshakeBinds" ∈ NW) (hM : Does X d2 M2 As wc mc2 ms2 Q2) (hd2 : d2 + 1 ≤ d) (hnp : As.length = np) (hst : As.reverse ++ rest = st) (hcat : (rest.map fun v => v.category).sum ≤ 8) (hk : k + mc2 ≤ mc) (hj : j + ms2 ≤ ms) (is : List Nat) (hC : is.map (fun i => w[i]?) = wc.map some) (hnd : va_nd is = true)  (pc2 : Nat) (hp : pc + 3 = pc2) (hd : decode M.2.1 pc = .ok (.invokestatic ix, 3))
    (kk : ∀ v w', Q2 v w' → ∃ w1 w2, w' = w1 ++ w2 ∧ w1.map Prod.fst = wc.map Prod.fst ∧ Runs X d M mc ms Q pc2 ls (v.toList ++ rest) (k + mc2) (j + ms2) (Xput w is w1 ++ w2)) : Runs X d M mc ms Q pc ls st k j w := by
  subst hp; subst hst
  intro p e s m args below meth c A H locs la C P L
  have hsz := L.1
  have fixed : CallFix p m c M.2.1 M.2.2.1 s args (Xws M) M.1.cls := ⟨C.1, C.2.1, C.2.2.1, C.own, C.2.2.2.2.1⟩
  exact X_call C P L is hC hnd (va_runSN (As := As) (rest := rest) fixed (hM H.size) (⟨va_cnB np C.2.2.2.2.1 (Xgood0 hlk.1) rfl rfl rfl (C.nw hln) (C.use hlk.1.1) hlk.1.2.2.1 (Xroom hd2 hlk.1.2.2.2), C.use hlk.2, trivial⟩) ⟨Xblind, Xgive C P is hC hnd As⟩ rfl hnp (by show la.size = _; exact hsz) rfl (lv_room hcat) hd ⟨hk, hj⟩) kk
theorem r_callI {X : Xn} {d : Nat} {M : XM} {mc ms : Nat} {Q : Option Value → va_W → Prop} {pc : Nat} {ls : List (Option Value)} {rest : List Value} {k j : Nat} {w : va_W} {M2 : XM} {ix np d2 mc2 ms2 : Nat} {Q2 : Option Value → va_W → Prop} {wc : va_W} {As : List Value} {st : List Value} {b : Nat} (hlk : LIn M2 np) (hln : Cond.methodLink M.1.cls ix M2.1 ∈ TB) (hM : Does X d2 M2 (.ref b :: As) wc mc2 ms2 Q2) (hd2 : d2 + 1 ≤ d) (hnp : As.length = np) (hst : As.reverse ++ .ref b :: rest = st) (hcat : (rest.map fun v => v.category).sum ≤ 8) (hk : k + mc2 ≤ mc) (hj : j + ms2 ≤ ms) (is : List Nat) (hC : is.map (fun i => w[i]?) = wc.map some) (hnd : va_nd is = true)  (pc2 : Nat) (hp : pc + 3 = pc2) (hd : decode M.2.1 pc = .ok (.invokespecial ix, 3))
    (kk : ∀ v w', Q2 v w' → ∃ w1 w2, w' = w1 ++ w2 ∧ w1.map Prod.fst = wc.map Prod.fst ∧ Runs X d M mc ms Q pc2 ls (v.toList ++ rest) (k + mc2) (j + ms2) (Xput w is w1 ++ w2)) : Runs X d M mc ms Q pc ls st k j w := by
  subst hp; subst hst
  intro p e s m args below meth c A H locs la C P L
  have hsz := L.1
  have fixed : CallFix p m c M.2.1 M.2.2.1 s args (Xws M) M.1.cls := ⟨C.1, C.2.1, C.2.2.1, C.own, C.2.2.2.2.1⟩
  exact X_call C P L is hC hnd (va_runI (As := As) (rest := rest) fixed (hM H.size) (cwI np C.2.2.2.2.1 (Xgood0 hlk.1) (show Xws M2 = Cond.code M2.1 M2.2.1 M2.2.2.1 none :: TB by show Cond.code M2.1 M2.2.1 M2.2.2.1 M2.2.2.2 :: TB = _; rw [hlk.2.2.2]) rfl rfl (C.use hlk.1.1) (C.use hln) (C.use hlk.2.1) hlk.2.2.1 hlk.1.2.2.1 (Xroom hd2 hlk.1.2.2.2)) ⟨Xblind, Xgive C P is hC hnd (.ref b :: As)⟩ rfl hnp (by show la.size = _; exact hsz) rfl (lv_room hcat) hd ⟨hk, hj⟩) kk
theorem r_callIn {X : Xn} {d : Nat} {M : XM} {mc ms : Nat} {Q : Option Value → va_W → Prop} {pc : Nat} {ls : List (Option Value)} {rest : List Value} {k j : Nat} {w : va_W} {M2 : XM} {ix np d2 mc2 ms2 : Nat} {Q2 : Option Value → va_W → Prop} {wc : va_W} {As : List Value} {st : List Value} {b : Nat} (hlk : LIn M2 np) (hln : Cond.methodLinkNest M.1.cls ix M2.1 "HandshakeBinds" ∈ NW) (hM : Does X d2 M2 (.ref b :: As) wc mc2 ms2 Q2) (hd2 : d2 + 1 ≤ d) (hnp : As.length = np) (hst : As.reverse ++ .ref b :: rest = st) (hcat : (rest.map fun v => v.category).sum ≤ 8) (hk : k + mc2 ≤ mc) (hj : j + ms2 ≤ ms) (is : List Nat) (hC : is.map (fun i => w[i]?) = wc.map some) (hnd : va_nd is = true)  (pc2 : Nat) (hp : pc + 3 = pc2) (hd : decode M.2.1 pc = .ok (.invokespecial ix, 3))
    (kk : ∀ v w', Q2 v w' → ∃ w1 w2, w' = w1 ++ w2 ∧ w1.map Prod.fst = wc.map Prod.fst ∧ Runs X d M mc ms Q pc2 ls (v.toList ++ rest) (k + mc2) (j + ms2) (Xput w is w1 ++ w2)) : Runs X d M mc ms Q pc ls st k j w := by
  subst hp; subst hst
  intro p e s m args below meth c A H locs la C P L
  have hsz := L.1
  have fixed : CallFix p m c M.2.1 M.2.2.1 s args (Xws M) M.1.cls := ⟨C.1, C.2.1, C.2.2.1, C.own, C.2.2.2.2.1⟩
  exact X_call C P L is hC hnd (va_runIN (As := As) (rest := rest) fixed (hM H.size) (⟨va_cnB np C.2.2.2.2.1 (Xgood0 hlk.1) (show Xws M2 = Cond.code M2.1 M2.2.1 M2.2.2.1 none :: TB by show Cond.code M2.1 M2.2.1 M2.2.2.1 M2.2.2.2 :: TB = _; rw [hlk.2.2.2]) rfl rfl (C.nw hln) (C.use hlk.1.1) hlk.1.2.2.1 (Xroom hd2 hlk.1.2.2.2), hlk.2.2.1, C.use hlk.2.1⟩) ⟨Xblind, Xgive C P is hC hnd (.ref b :: As)⟩ rfl hnp (by show la.size = _; exact hsz) rfl (lv_room hcat) hd ⟨hk, hj⟩) kk
theorem r_iret {X : Xn} {d : Nat} {M : XM} {mc ms : Nat} {Q : Option Value → va_W → Prop} {pc : Nat} {ls : List (Option Value)} {k j : Nat} {w : va_W} {x : Int32} (hr : M.2.2.2 = some .int) (hk : k ≤ mc) (hj : j ≤ ms) (hd : decode M.2.1 pc = .ok (.ireturn, 1)) (hq : Q (some (.int x)) w) : Runs X d M mc ms Q pc ls [.int x] k j w := fun p e s m args below meth c A H locs la C P L => W.widen hk hj (W.iret C.1 C.2.1 (C.2.2.2.1.trans hr) (fun t ht hW => ⟨⟨_, w, rfl, hq, by rw [ht]; exact P.1, P.2.1⟩, P.2.2.F ht⟩) P.2.2.2.2 hd C.2.2.2.2.2.2.1)
theorem r_zret {X : Xn} {d : Nat} {M : XM} {mc ms : Nat} {Q : Option Value → va_W → Prop} {pc : Nat} {ls : List (Option Value)} {k j : Nat} {w : va_W} {x : Int32} {ty : FieldType} (hr : M.2.2.2 = some ty) (hn : narrow ty (.int x) = .int x) (hk : k ≤ mc) (hj : j ≤ ms) (hd : decode M.2.1 pc = .ok (.ireturn, 1)) (hq : Q (some (.int x)) w) : Runs X d M mc ms Q pc ls [.int x] k j w := fun p e s m args below meth c A H locs la C P L => W.widen hk hj (W.zret C.1 C.2.1 (C.2.2.2.1.trans hr) hn (fun t ht hW => ⟨⟨_, w, rfl, hq, by rw [ht]; exact P.1, P.2.1⟩, P.2.2.F ht⟩) P.2.2.2.2 hd C.2.2.2.2.2.2.1)
theorem r_lret {X : Xn} {d : Nat} {M : XM} {mc ms : Nat} {Q : Option Value → va_W → Prop} {pc : Nat} {ls : List (Option Value)} {k j : Nat} {w : va_W} {x : Int64} (hr : M.2.2.2 = some .long) (hk : k ≤ mc) (hj : j ≤ ms) (hd : decode M.2.1 pc = .ok (.lreturn, 1)) (hq : Q (some (.long x)) w) : Runs X d M mc ms Q pc ls [.long x] k j w := fun p e s m args below meth c A H locs la C P L => W.widen hk hj (W.lret C.1 C.2.1 (C.2.2.2.1.trans hr) (fun t ht hW => ⟨⟨_, w, rfl, hq, by rw [ht]; exact P.1, P.2.1⟩, P.2.2.F ht⟩) P.2.2.2.2 hd C.2.2.2.2.2.2.1)
theorem r_vret {X : Xn} {d : Nat} {M : XM} {mc ms : Nat} {Q : Option Value → va_W → Prop} {pc : Nat} {ls : List (Option Value)} {k j : Nat} {w : va_W} (hr : M.2.2.2 = none) (hk : k ≤ mc) (hj : j ≤ ms) (hd : decode M.2.1 pc = .ok (.return_, 1)) (hq : Q none w) : Runs X d M mc ms Q pc ls [] k j w := fun p e s m args below meth c A H locs la C P L => W.widen hk hj (W.vret C.1 C.2.1 (C.2.2.2.1.trans hr) (fun t ht hW => ⟨⟨_, w, rfl, hq, by rw [ht]; exact P.1, P.2.1⟩, P.2.2.F ht⟩) P.2.2.2.2 hd C.2.2.2.2.2.2.1)
theorem r_aret {X : Xn} {d : Nat} {M : XM} {mc ms : Nat} {Q : Option Value → va_W → Prop} {pc : Nat} {ls : List (Option Value)} {k j : Nat} {w : va_W} {x : Value} {n : String} (hr : M.2.2.2 = some (.object n)) (hx : x = .null ∨ ∃ a, x = .ref a) (hk : k ≤ mc) (hj : j ≤ ms) (hd : decode M.2.1 pc = .ok (.areturn, 1)) (hq : Q (some x) w) : Runs X d M mc ms Q pc ls [x] k j w := fun p e s m args below meth c A H locs la C P L => W.widen hk hj (W.aret C.1 C.2.1 (C.2.2.2.1.trans hr) (Or.inl ⟨n, rfl⟩) hx (fun t ht hW => ⟨⟨_, w, rfl, hq, by rw [ht]; exact P.1, P.2.1⟩, P.2.2.F ht⟩) P.2.2.2.2 hd C.2.2.2.2.2.2.1)
theorem r_mmax {X : Xn} {d : Nat} {M : XM} {mc ms : Nat} {Q : Option Value → va_W → Prop} {pc : Nat} {ls : List (Option Value)} {rest : List Value} {k j : Nat} {w : va_W} {ix : Nat} {x y : Int32} (hln : Cond.methodLink M.1.cls ix Lib.Math.max.name ∈ TB) (hdd : 1 ≤ d) (hk : k ≤ mc) (hj : j ≤ ms) (hcat : (rest.map fun v => v.category).sum ≤ 8) (pc2 : Nat) (hp : pc + 3 = pc2) (hd : decode M.2.1 pc = .ok (.invokestatic ix, 3)) (kk : Runs X d M mc ms Q pc2 ls (.int (if x < y then y else x) :: rest) k j w) : Runs X d M mc ms Q pc ls (.int y :: .int x :: rest) k j w := by
  subst hp
  intro p e s m args below meth c A H locs la C P L
  exact va_mmax C.1 C.2.1 (C.2.2.1.trans L.1.symm) C.own (C.use hln) (C.use (inTB 124 (by decide +kernel) rfl)) (C.use (inTB 66 (by decide +kernel) rfl)) (C.use (inTB 125 (by decide +kernel) rfl)) hdd (by show _ ≤ 40 * d; omega) hk hj hd (kk p e s m args below meth c A H locs la C P L)
theorem r_mmin {X : Xn} {d : Nat} {M : XM} {mc ms : Nat} {Q : Option Value → va_W → Prop} {pc : Nat} {ls : List (Option Value)} {rest : List Value} {k j : Nat} {w : va_W} {ix : Nat} {x y : Int32} (hln : Cond.methodLink M.1.cls ix Lib.Math.min.name ∈ TB) (hdd : 1 ≤ d) (hk : k ≤ mc) (hj : j ≤ ms) (hcat : (rest.map fun v => v.category).sum ≤ 8) (pc2 : Nat) (hp : pc + 3 = pc2) (hd : decode M.2.1 pc = .ok (.invokestatic ix, 3)) (kk : Runs X d M mc ms Q pc2 ls (.int (if y < x then y else x) :: rest) k j w) : Runs X d M mc ms Q pc ls (.int y :: .int x :: rest) k j w := by
  subst hp
  intro p e s m args below meth c A H locs la C P L
  exact va_mmin C.1 C.2.1 (C.2.2.1.trans L.1.symm) C.own (C.use hln) (C.use (inTB 469 (by decide +kernel) rfl)) (C.use (inTB 66 (by decide +kernel) rfl)) (C.use (inTB 470 (by decide +kernel) rfl)) hdd (by show _ ≤ 40 * d; omega) hk hj hd (kk p e s m args below meth c A H locs la C P L)
theorem r_mabs {X : Xn} {d : Nat} {M : XM} {mc ms : Nat} {Q : Option Value → va_W → Prop} {pc : Nat} {ls : List (Option Value)} {rest : List Value} {k j : Nat} {w : va_W} {ix : Nat} {x : Int32} (hln : Cond.methodLink M.1.cls ix Lib.Math.abs.name ∈ TB) (hdd : 1 ≤ d) (hk : k ≤ mc) (hj : j ≤ ms) (hcat : (rest.map fun v => v.category).sum ≤ 8) (pc2 : Nat) (hp : pc + 3 = pc2) (hd : decode M.2.1 pc = .ok (.invokestatic ix, 3)) (kk : Runs X d M mc ms Q pc2 ls (.int (if 0 ≤ x then x else 0 - x) :: rest) k j w) : Runs X d M mc ms Q pc ls (.int x :: rest) k j w := by
  subst hp
  intro p e s m args below meth c A H locs la C P L
  exact va_mabs C.1 C.2.1 (C.2.2.1.trans L.1.symm) C.own (C.use hln) (C.use (inTB 643 (by decide +kernel) rfl)) (C.use (inTB 66 (by decide +kernel) rfl)) (C.use (inTB 644 (by decide +kernel) rfl)) hdd (by show _ ≤ 40 * d; omega) hk hj hd (kk p e s m args below meth c A H locs la C P L)
theorem r_copyi {X : Xn} {d : Nat} {M : XM} {mc ms : Nat} {Q : Option Value → va_W → Prop} {pc : Nat} {ls : List (Option Value)} {rest : List Value} {k j : Nat} {w : va_W} {ix a0 a1 n0 n1 : Nat} {f g : Nat → Int32} {sp dp n : Int32} {w2 : va_W} (hln : Cond.methodLink M.1.cls ix arraycopyName ∈ TB) (hdd : 1 ≤ d) (hcat : (rest.map fun v => v.category).sum ≤ 8) (q0 q1 : Nat) (h0 : w[q0]? = some (a0, .inl (X.2.2.1 0, n0, .inl f))) (h1 : w[q1]? = some (a1, .inl (X.2.2.1 0, n1, .inl g))) (x y z : Nat) (hx : sp = nI x) (hy : dp = nI y) (hz : n = nI z) (l0 : x + z ≤ n0) (l1 : y + z ≤ n1) (hb0 : n0 < 2 ^ 31) (hb1 : n1 < 2 ^ 31) (hw : w.set q1 (a1, .inl (X.2.2.1 0, n1, .inl (va_cpy f g x y z))) = w2) (pc2 : Nat) (hp : pc + 3 = pc2) (hd : decode M.2.1 pc = .ok (.invokestatic ix, 3)) (kk : Runs X d M mc ms Q pc2 ls rest k j w2) : Runs X d M mc ms Q pc ls (.int n :: .int dp :: .ref a1 :: .int sp :: .ref a0 :: rest) k j w := by
  subst hp; subst hx; subst hy; subst hz; subst hw
  intro p e s m args below meth c A H locs la C P L
  have e1 := nI_clamp (n := x) (by omega)
  have e2 := nI_clamp (n := y) (by omega)
  have e3 := nI_clamp (n := z) (by omega)
  refine va_copyi C.1 C.2.1 (C.2.2.1.trans L.1.symm) C.own (C.use hln) (C.use (inTB 718 (by decide +kernel) rfl)) (C.use (inTB 717 (by decide +kernel) rfl)) (C.use (inTB 79 (by decide +kernel) rfl)) C.K P.1 P.2.1 P.2.2 q0 q1 0 0 h0 h1 rfl rfl rfl (nI_pos (by omega)) (nI_pos (by omega)) (nI_pos (by omega)) (by rw [e1, e3]; exact l0) (by rw [e2, e3]; exact l1) (fun _ _ => rfl) hdd (by show _ + (7 + 11) ≤ 40 * d; omega) hd ?_
  rw [e1, e2, e3]
  exact fun H1 locs1 g1 g2 g3 => kk p e s m args below meth c A H1 locs1 la C ⟨g1, g2, g3⟩ L
theorem r_copyl {X : Xn} {d : Nat} {M : XM} {mc ms : Nat} {Q : Option Value → va_W → Prop} {pc : Nat} {ls : List (Option Value)} {rest : List Value} {k j : Nat} {w : va_W} {ix a0 a1 n0 n1 : Nat} {f g : Nat → Int64} {sp dp n : Int32} {w2 : va_W} (hln : Cond.methodLink M.1.cls ix arraycopyName ∈ TB) (hdd : 1 ≤ d) (hcat : (rest.map fun v => v.category).sum ≤ 8) (q0 q1 : Nat) (h0 : w[q0]? = some (a0, .inl (X.2.2.1 1, n0, .inr (.inl f)))) (h1 : w[q1]? = some (a1, .inl (X.2.2.1 1, n1, .inr (.inl g)))) (x y z : Nat) (hx : sp = nI x) (hy : dp = nI y) (hz : n = nI z) (l0 : x + z ≤ n0) (l1 : y + z ≤ n1) (hb0 : n0 < 2 ^ 31) (hb1 : n1 < 2 ^ 31) (hw : w.set q1 (a1, .inl (X.2.2.1 1, n1, .inr (.inl (va_cpy f g x y z)))) = w2) (pc2 : Nat) (hp : pc + 3 = pc2) (hd : decode M.2.1 pc = .ok (.invokestatic ix, 3)) (kk : Runs X d M mc ms Q pc2 ls rest k j w2) : Runs X d M mc ms Q pc ls (.int n :: .int dp :: .ref a1 :: .int sp :: .ref a0 :: rest) k j w := by
  subst hp; subst hx; subst hy; subst hz; subst hw
  intro p e s m args below meth c A H locs la C P L
  have e1 := nI_clamp (n := x) (by omega)
  have e2 := nI_clamp (n := y) (by omega)
  have e3 := nI_clamp (n := z) (by omega)
  refine va_copyl C.1 C.2.1 (C.2.2.1.trans L.1.symm) C.own (C.use hln) (C.use (inTB 718 (by decide +kernel) rfl)) (C.use (inTB 717 (by decide +kernel) rfl)) (C.use (inTB 79 (by decide +kernel) rfl)) C.K P.1 P.2.1 P.2.2 q0 q1 1 1 h0 h1 rfl rfl rfl (nI_pos (by omega)) (nI_pos (by omega)) (nI_pos (by omega)) (by rw [e1, e3]; exact l0) (by rw [e2, e3]; exact l1) (fun _ _ => rfl) hdd (by show _ + (7 + 11) ≤ 40 * d; omega) hd ?_
  rw [e1, e2, e3]
  exact fun H1 locs1 g1 g2 g3 => kk p e s m args below meth c A H1 locs1 la C ⟨g1, g2, g3⟩ L
def NF (own : String) (ix ci N : Nat) (fs : List Value) : Prop := ∃ (C : String) (T : u_T) (ty : Nat → FieldType), CLS[ci]? = some (C, T, N) ∧ (∀ w ∈ u_ws C T N, w ∈ TB) ∧ (∀ q, q < N → parseFieldDescriptor (T q).2.2.1 = some (ty q)) ∧ Cond.classLink own ix C ∈ TB ∧ Cond.instantiable C N ∈ TB ∧ Cond.initialized C ∈ TB ∧ ∀ q, q < N → defaultValue (ty q) = vp_V fs q
theorem r_new {X : Xn} {d : Nat} {M : XM} {mc ms : Nat} {Q : Option Value → va_W → Prop} {pc : Nat} {ls : List (Option Value)} {rest : List Value} {k j : Nat} {w : va_W} {ix ci N : Nat} {fs : List Value} (hf : NF M.1.cls ix ci N fs) (hk : k + 1 ≤ mc) (hj : j + N ≤ ms) (pc2 : Nat) (hp : pc + 3 = pc2) (hd : decode M.2.1 pc = .ok (.new ix, 3)) (kk : ∀ q : Nat, Runs X d M mc ms Q pc2 ls (.ref q :: rest) (k + 1) (j + N) (w ++ [(q, .inr (ci, fs))])) : Runs X d M mc ms Q pc ls rest k j w := by
  subst hp
  obtain ⟨C0, T0, ty, h1, h2, h3, h4, h5, h6, h7⟩ := hf
  exact fun p e s m args below meth c A H locs la C P L => va_new C.1 C.2.1 C.2.2.2.2.1 (C.ins h2) ty h3 C.own (C.use h4) (C.use h5) (C.use h6) C.K P.1 P.2.1 P.2.2 C.new h1 h7 hk hj hd (fun q H1 g1 g2 g3 => kk q p e s m args below meth c A H1 locs la C ⟨g1, g2, g3⟩ L)
theorem r_newaI {X : Xn} {d : Nat} {M : XM} {mc ms : Nat} {Q : Option Value → va_W → Prop} {pc : Nat} {ls : List (Option Value)} {rest : List Value} {k j : Nat} {w : va_W} {n : Int32} (N : Nat) (hn : n = nI N) (hN : N < 10000) (hk : k + 1 ≤ mc) (hj : j + N ≤ ms) (pc2 : Nat) (hp : pc + 2 = pc2) (hd : decode M.2.1 pc = .ok (.newarray .int, 2)) (kk : ∀ q : Nat, Runs X d M mc ms Q pc2 ls (.ref q :: rest) (k + 1) (j + N) (w ++ [(q, .inl (X.2.2.1 0, N, .inl (fun _ => 0)))])) : Runs X d M mc ms Q pc ls (.int n :: rest) k j w := by
  subst hp; subst hn
  intro p e s m args below meth c A H locs la C P L
  refine va_newa C.1 C.2.1 (atype := .int) (C.use (inTB 116 (by decide +kernel) rfl)) (ty := .int) rfl C.K P.1 P.2.1 P.2.2 C.new (N' := N) (a0 := (N, .inl (fun _ => 0))) (fun _ => rfl) (nI_pos (by omega)) (nI_clamp (by omega)) (by show N * 4 ≤ _; omega) hk hj hd (fun q cA H1 g0 g1 g2 g3 => ?_)
  have ha := (g0.2 5 _ rfl).2
  have hb := (C.K.2 0 _ rfl).2
  have hc : cA = X.2.2.1 0 := Option.some.inj ((show s.vm.findClass _ = some cA from ha).symm.trans (show s.vm.findClass _ = some (X.2.2.1 0) from hb))
  subst hc
  exact kk q p e s m args below meth c A H1 locs la C ⟨g1, g2, g3⟩ L
theorem r_newaJ {X : Xn} {d : Nat} {M : XM} {mc ms : Nat} {Q : Option Value → va_W → Prop} {pc : Nat} {ls : List (Option Value)} {rest : List Value} {k j : Nat} {w : va_W} {n : Int32} (N : Nat) (hn : n = nI N) (hN : N < 10000) (hk : k + 1 ≤ mc) (hj : j + N ≤ ms) (pc2 : Nat) (hp : pc + 2 = pc2) (hd : decode M.2.1 pc = .ok (.newarray .long, 2)) (kk : ∀ q : Nat, Runs X d M mc ms Q pc2 ls (.ref q :: rest) (k + 1) (j + N) (w ++ [(q, .inl (X.2.2.1 1, N, .inr (.inl (fun _ => 0))))])) : Runs X d M mc ms Q pc ls (.int n :: rest) k j w := by
  subst hp; subst hn
  intro p e s m args below meth c A H locs la C P L
  refine va_newa C.1 C.2.1 (atype := .long) (C.use (inTB 316 (by decide +kernel) rfl)) (ty := .long) rfl C.K P.1 P.2.1 P.2.2 C.new (N' := N) (a0 := (N, .inr (.inl (fun _ => 0)))) (fun _ => rfl) (nI_pos (by omega)) (nI_clamp (by omega)) (by show N * 8 ≤ _; omega) hk hj hd (fun q cA H1 g0 g1 g2 g3 => ?_)
  have ha := (g0.2 5 _ rfl).2
  have hb := (C.K.2 1 _ rfl).2
  have hc : cA = X.2.2.1 1 := Option.some.inj ((show s.vm.findClass _ = some cA from ha).symm.trans (show s.vm.findClass _ = some (X.2.2.1 1) from hb))
  subst hc
  exact kk q p e s m args below meth c A H1 locs la C ⟨g1, g2, g3⟩ L
theorem r_newaZ {X : Xn} {d : Nat} {M : XM} {mc ms : Nat} {Q : Option Value → va_W → Prop} {pc : Nat} {ls : List (Option Value)} {rest : List Value} {k j : Nat} {w : va_W} {n : Int32} (N : Nat) (hn : n = nI N) (hN : N < 10000) (hk : k + 1 ≤ mc) (hj : j + N ≤ ms) (pc2 : Nat) (hp : pc + 2 = pc2) (hd : decode M.2.1 pc = .ok (.newarray .boolean, 2)) (kk : ∀ q : Nat, Runs X d M mc ms Q pc2 ls (.ref q :: rest) (k + 1) (j + N) (w ++ [(q, .inl (X.2.2.1 2, N, .inl (fun _ => 0)))])) : Runs X d M mc ms Q pc ls (.int n :: rest) k j w := by
  subst hp; subst hn
  intro p e s m args below meth c A H locs la C P L
  refine va_newa C.1 C.2.1 (atype := .boolean) (C.use (inTB 989 (by decide +kernel) rfl)) (ty := .boolean) rfl C.K P.1 P.2.1 P.2.2 C.new (N' := N) (a0 := (N, .inl (fun _ => 0))) (fun _ => rfl) (nI_pos (by omega)) (nI_clamp (by omega)) (by show N * 1 ≤ _; omega) hk hj hd (fun q cA H1 g0 g1 g2 g3 => ?_)
  have ha := (g0.2 5 _ rfl).2
  have hb := (C.K.2 2 _ rfl).2
  have hc : cA = X.2.2.1 2 := Option.some.inj ((show s.vm.findClass _ = some cA from ha).symm.trans (show s.vm.findClass _ = some (X.2.2.1 2) from hb))
  subst hc
  exact kk q p e s m args below meth c A H1 locs la C ⟨g1, g2, g3⟩ L
theorem r_newqE {X : Xn} {d : Nat} {M : XM} {mc ms : Nat} {Q : Option Value → va_W → Prop} {pc : Nat} {ls : List (Option Value)} {rest : List Value} {k j : Nat} {w : va_W} {ix : Nat} {n : Int32} (hln : Cond.classLink M.1.cls ix "HandshakeBinds$Exchange" ∈ TB) (N : Nat) (hn : n = nI N) (hN : N < 10000) (hk : k + 1 ≤ mc) (hj : j + N ≤ ms) (pc2 : Nat) (hp : pc + 3 = pc2) (hd : decode M.2.1 pc = .ok (.anewarray ix, 3)) (kk : ∀ q : Nat, Runs X d M mc ms Q pc2 ls (.ref q :: rest) (k + 1) (j + N) (w ++ [(q, .inl (X.2.2.1 3, N, .inr (.inr (.inr (.inr (fun _ => none))))))])) : Runs X d M mc ms Q pc ls (.int n :: rest) k j w := by
  subst hp; subst hn
  intro p e s m args below meth c A H locs la C P L
  refine va_newq C.1 C.2.1 C.own (C.use hln) C.st.2.2.2.2.2.2.2.2.1 C.K P.1 P.2.1 P.2.2 C.new (N' := N) (nI_pos (by omega)) (nI_clamp (by omega)) (by omega) hk hj hd (fun q cA H1 g0 g1 g2 g3 => ?_)
  obtain ⟨kA, cp, a1, a2, a3, ha⟩ := (show va_RA s cA (.object "HandshakeBinds$Exchange") from (g0.2 5 _ rfl).2)
  obtain ⟨kB, cq, b1, b2, b3, hb⟩ := (show va_RA s (X.2.2.1 3) (.object "HandshakeBinds$Exchange") from (C.K.2 3 _ rfl).2)
  have hc : cA = X.2.2.1 3 := Option.some.inj (ha.symm.trans hb)
  subst hc
  exact kk q p e s m args below meth c A H1 locs la C ⟨g1, g2, g3⟩ L
theorem r_aastE {X : Xn} {d : Nat} {M : XM} {mc ms : Nat} {Q : Option Value → va_W → Prop} {pc : Nat} {ls : List (Option Value)} {rest : List Value} {k j : Nat} {w : va_W} {a n y : Nat} {i : Int32} {f : Nat → Option Nat} {vs : List Value} {ci : Nat} {T0 : u_T} {N0 : Nat} {w2 : va_W} (q0 qk : Nat) (he : w[q0]? = some (a, .inl (X.2.2.1 3, n, .inr (.inr (.inr (.inr f)))))) (hv : w[qk]? = some (y, .inr (ci, vs))) (hci : CLS[ci]? = some ("HandshakeBinds$Exchange", T0, N0)) (x : Nat) (hi : i = nI x) (hx : x < n) (hn : n < 2 ^ 31) (hw : w.set q0 (a, .inl (X.2.2.1 3, n, .inr (.inr (.inr (.inr (va_up f x (some y))))))) = w2) (pc2 : Nat) (hp : pc + 1 = pc2) (hd : decode M.2.1 pc = .ok (.aastore, 1)) (kk : Runs X d M mc ms Q pc2 ls rest k j w2) : Runs X d M mc ms Q pc ls (.ref y :: .int i :: .ref a :: rest) k j w := by
  subst hp; subst hi; subst hw
  intro p e s m args below meth c A H locs la C P L
  refine va_astq C.1 C.2.1 C.K P.1 P.2.1 P.2.2 q0 3 qk ci he rfl hv hci (vp_in_nI hx hn) hd ?_
  rw [nI_clamp (by omega)]
  exact fun H1 locs1 g1 g2 g3 => kk p e s m args below meth c A H1 locs1 la C ⟨g1, g2, g3⟩ L
theorem r_newqT {X : Xn} {d : Nat} {M : XM} {mc ms : Nat} {Q : Option Value → va_W → Prop} {pc : Nat} {ls : List (Option Value)} {rest : List Value} {k j : Nat} {w : va_W} {ix : Nat} {n : Int32} (hln : Cond.classLink M.1.cls ix "HandshakeBinds$Tape" ∈ TB) (N : Nat) (hn : n = nI N) (hN : N < 10000) (hk : k + 1 ≤ mc) (hj : j + N ≤ ms) (pc2 : Nat) (hp : pc + 3 = pc2) (hd : decode M.2.1 pc = .ok (.anewarray ix, 3)) (kk : ∀ q : Nat, Runs X d M mc ms Q pc2 ls (.ref q :: rest) (k + 1) (j + N) (w ++ [(q, .inl (X.2.2.1 4, N, .inr (.inr (.inr (.inr (fun _ => none))))))])) : Runs X d M mc ms Q pc ls (.int n :: rest) k j w := by
  subst hp; subst hn
  intro p e s m args below meth c A H locs la C P L
  refine va_newq C.1 C.2.1 C.own (C.use hln) C.st.2.2.2.2.2.2.2.2.2.1 C.K P.1 P.2.1 P.2.2 C.new (N' := N) (nI_pos (by omega)) (nI_clamp (by omega)) (by omega) hk hj hd (fun q cA H1 g0 g1 g2 g3 => ?_)
  obtain ⟨kA, cp, a1, a2, a3, ha⟩ := (show va_RA s cA (.object "HandshakeBinds$Tape") from (g0.2 5 _ rfl).2)
  obtain ⟨kB, cq, b1, b2, b3, hb⟩ := (show va_RA s (X.2.2.1 4) (.object "HandshakeBinds$Tape") from (C.K.2 4 _ rfl).2)
  have hc : cA = X.2.2.1 4 := Option.some.inj (ha.symm.trans hb)
  subst hc
  exact kk q p e s m args below meth c A H1 locs la C ⟨g1, g2, g3⟩ L
theorem r_aastT {X : Xn} {d : Nat} {M : XM} {mc ms : Nat} {Q : Option Value → va_W → Prop} {pc : Nat} {ls : List (Option Value)} {rest : List Value} {k j : Nat} {w : va_W} {a n y : Nat} {i : Int32} {f : Nat → Option Nat} {vs : List Value} {ci : Nat} {T0 : u_T} {N0 : Nat} {w2 : va_W} (q0 qk : Nat) (he : w[q0]? = some (a, .inl (X.2.2.1 4, n, .inr (.inr (.inr (.inr f)))))) (hv : w[qk]? = some (y, .inr (ci, vs))) (hci : CLS[ci]? = some ("HandshakeBinds$Tape", T0, N0)) (x : Nat) (hi : i = nI x) (hx : x < n) (hn : n < 2 ^ 31) (hw : w.set q0 (a, .inl (X.2.2.1 4, n, .inr (.inr (.inr (.inr (va_up f x (some y))))))) = w2) (pc2 : Nat) (hp : pc + 1 = pc2) (hd : decode M.2.1 pc = .ok (.aastore, 1)) (kk : Runs X d M mc ms Q pc2 ls rest k j w2) : Runs X d M mc ms Q pc ls (.ref y :: .int i :: .ref a :: rest) k j w := by
  subst hp; subst hi; subst hw
  intro p e s m args below meth c A H locs la C P L
  refine va_astq C.1 C.2.1 C.K P.1 P.2.1 P.2.2 q0 4 qk ci he rfl hv hci (vp_in_nI hx hn) hd ?_
  rw [nI_clamp (by omega)]
  exact fun H1 locs1 g1 g2 g3 => kk p e s m args below meth c A H1 locs1 la C ⟨g1, g2, g3⟩ L
theorem r_objInit {X : Xn} {d : Nat} {M : XM} {mc ms : Nat} {Q : Option Value → va_W → Prop} {pc : Nat} {ls : List (Option Value)} {rest : List Value} {k j : Nat} {w : va_W} {ix a : Nat} (hln : Cond.methodLink M.1.cls ix objectInit ∈ TB) (hdd : 1 ≤ d) (hcat : (rest.map fun v => v.category).sum ≤ 8) (pc2 : Nat) (hp : pc + 3 = pc2) (hd : decode M.2.1 pc = .ok (.invokespecial ix, 3)) (kk : Runs X d M mc ms Q pc2 ls rest k j w) : Runs X d M mc ms Q pc ls (.ref a :: rest) k j w := by
  subst hp
  intro p e s m args below meth c A H locs la C P L
  refine W.objInit C.1 C.2.1 C.own (C.use hln) (C.use (inTB 86 (by decide +kernel) rfl)) (C.use (inTB 87 (by decide +kernel) rfl)) rfl (by rw [C.2.2.1]; exact L.1) rfl hd hdd ?_ (kk p e s m args below meth c A H locs la C P L)
  show 2 * 0 + _ + 12 ≤ 40 * d
  omega
theorem r_getsN {X : Xn} {d : Nat} {M : XM} {mc ms : Nat} {Q : Option Value → va_W → Prop} {pc : Nat} {ls : List (Option Value)} {rest : List Value} {k j : Nat} {w : va_W} {ix : Nat} {n dd : String} {v : Value} (hZ : ∀ A U H, Xst X A U H → va_Z "HandshakeBinds" n dd v A U H) (hln : Cond.fieldLinkNest M.1.cls ix "HandshakeBinds" n dd "HandshakeBinds" ∈ NW) (pc2 : Nat) (hp : pc + 3 = pc2) (hd : decode M.2.1 pc = .ok (.getstatic ix, 3)) (kk : Runs X d M mc ms Q pc2 ls (v :: rest) k j w) : Runs X d M mc ms Q pc ls rest k j w := by
  subst hp
  exact fun p e s m args below meth c A H locs la C P L => va_getsN C.1 C.2.1 (hZ A s s.heap C.st) P.2.2 C.own (va_Nw.use rfl (C.nw hln)) (fun _ h9 => h9) hd (kk p e s m args below meth c A H locs la C P L)
theorem r_gets {X : Xn} {d : Nat} {M : XM} {mc ms : Nat} {Q : Option Value → va_W → Prop} {pc : Nat} {ls : List (Option Value)} {rest : List Value} {k j : Nat} {w : va_W} {ix : Nat} {cn n dd : String} {v : Value} (hZ : ∀ A U H, Xst X A U H → va_Z cn n dd v A U H) (hln : Cond.fieldLink M.1.cls ix cn n dd ∈ TB) (pc2 : Nat) (hp : pc + 3 = pc2) (hd : decode M.2.1 pc = .ok (.getstatic ix, 3)) (kk : Runs X d M mc ms Q pc2 ls (v :: rest) k j w) : Runs X d M mc ms Q pc ls rest k j w := by
  subst hp
  exact fun p e s m args below meth c A H locs la C P L => va_gets C.1 C.2.1 (hZ A s s.heap C.st) P.2.2 C.own (C.use hln) (fun _ h9 => h9) hd (kk p e s m args below meth c A H locs la C P L)
theorem r_tald {X : Xn} {d : Nat} {M : XM} {mc ms : Nat} {Q : Option Value → va_W → Prop} {pc : Nat} {ls : List (Option Value)} {rest : List Value} {k j : Nat} {w : va_W} {t N : Nat} {g : Nat → Int32} {i : Int32} (hT : ∀ A U H, Xst X A U H → va_T .int t N (fun q => .int (g q)) A U H) (x : Nat) (hi : i = nI x) (hx : x < N) (hn : N < 2 ^ 31) (pc2 : Nat) (hp : pc + 1 = pc2) (hd : decode M.2.1 pc = .ok (.iaload, 1)) (kk : Runs X d M mc ms Q pc2 ls (.int (g x) :: rest) k j w) : Runs X d M mc ms Q pc ls (.int i :: .ref t :: rest) k j w := by
  subst hp; subst hi
  exact fun p e s m args below meth c A H locs la C P L => va_ti C.1 C.2.1 (hT A s s.heap C.st) P.2.2 (vp_in_nI hx hn) (v := .int (g x)) (by rw [nI_clamp (by omega)]) hd (kk p e s m args below meth c A H locs la C P L)
theorem r_talen {X : Xn} {d : Nat} {M : XM} {mc ms : Nat} {Q : Option Value → va_W → Prop} {pc : Nat} {ls : List (Option Value)} {rest : List Value} {k j : Nat} {w : va_W} {t N : Nat} {g : Nat → Int32} (hT : ∀ A U H, Xst X A U H → va_T .int t N (fun q => .int (g q)) A U H) (pc2 : Nat) (hp : pc + 1 = pc2) (hd : decode M.2.1 pc = .ok (.arraylength, 1)) (kk : Runs X d M mc ms Q pc2 ls (.int (nI N) :: rest) k j w) : Runs X d M mc ms Q pc ls (.ref t :: rest) k j w := by
  subst hp
  exact fun p e s m args below meth c A H locs la C P L => va_tlen C.1 C.2.1 (hT A s s.heap C.st) P.2.2 (v := nI N) rfl hd (kk p e s m args below meth c A H locs la C P L)
theorem r_ldcS {X : Xn} {d : Nat} {M : XM} {mc ms : Nat} {Q : Option Value → va_W → Prop} {pc : Nat} {ls : List (Option Value)} {rest : List Value} {k j : Nat} {w : va_W} (i : Nat) (h8 : i < 8) (hc : M.1.cls = (litN i).1) {ix : Nat} (hix : ix = (litN i).2.1) (pc2 : Nat) (hp : pc + 2 = pc2) (hd : decode M.2.1 pc = .ok (.ldc ix, 2)) (kk : Runs X d M mc ms Q pc2 ls (.ref (X.2.2.2 (10 + i)) :: rest) k j w) : Runs X d M mc ms Q pc ls rest k j w := by
  subst hp; subst hix
  exact fun p e s m args below meth c A H locs la C P L => va_ldcS C.1 C.2.1 (hc ▸ C.own) (C.st.2.2.2.2.2.2.2.1 i h8) hd (kk p e s m args below meth c A H locs la C P L)
end
section
/-! ROWS over numbers and truth, and calls with a fixed end, by program -/
def bI (b : Bool) : Int32 := if b then 1 else 0
theorem bI_01 (b : Bool) : bI b = 0 ∨ bI b = 1 := by cases b <;> simp [bI]
theorem bI_nar (b : Bool) : narrow .boolean (.int (bI b)) = .int (bI b) := by cases b <;> rfl
theorem bI_0 {b : Bool} : bI b = 0 ↔ b = false := by cases b <;> simp [bI]
theorem bI_n0 {b : Bool} : ¬ bI b = 0 ↔ b = true := by cases b <;> simp [bI]
theorem nI_e0 {a : Nat} (h : a < 2 ^ 31) : nI a = 0 ↔ a = 0 := by
  have := nI_eq (a := a) (b := 0) h (by omega)
  rw [nI_0] at this; exact this
theorem nI_l0 {a : Nat} (h : a < 2 ^ 31) : nI a < 0 ↔ a < 0 := by
  have := nI_ltI (a := a) (b := 0) h (by omega)
  rw [nI_0] at this; exact this
theorem nI_g0 {a : Nat} (h : a < 2 ^ 31) : 0 < nI a ↔ 0 < a := by
  have := nI_ltI (a := 0) (b := a) (by omega) h
  rw [nI_0] at this; exact this
theorem nI_le0 {a : Nat} (h : a < 2 ^ 31) : nI a ≤ 0 ↔ a ≤ 0 := by
  have := nI_leI (a := a) (b := 0) h (by omega)
  rw [nI_0] at this; exact this
theorem nI_ge0 {a : Nat} (h : a < 2 ^ 31) : 0 ≤ nI a ↔ 0 ≤ a := by
  have := nI_leI (a := 0) (b := a) (by omega) h
  rw [nI_0] at this; exact this
theorem Xent_ok : ∀ (av : List Value) (i0 : Nat) (i : Nat) (v : Value), (av.flatMap (fun v => if v.category = 2 then [some v, none] else [some v]))[i]? = some (some v) → (i0 + i, v) ∈ lv_args i0 av := by
  intro av
  induction av with
  | nil => intro i0 i v h; simp at h
  | cons x t ih =>
    intro i0 i v h
    rw [List.flatMap_cons] at h
    unfold lv_args
    by_cases hc : x.category = 2
    · rw [if_pos hc] at h ⊢
      match i with
      | 0 => simp at h; subst h; exact List.mem_cons_self
      | 1 => simp at h
      | i + 2 =>
        have := ih (i0 + 2) i v (by simpa using h)
        rw [show i0 + (i + 2) = i0 + 2 + i by omega]
        exact List.mem_cons_of_mem _ this
    · rw [if_neg hc] at h ⊢
      match i with
      | 0 => simp at h; subst h; exact List.mem_cons_self
      | i + 1 =>
        have := ih (i0 + 1) i v (by simpa using h)
        rw [show i0 + (i + 1) = i0 + 1 + i by omega]
        exact List.mem_cons_of_mem _ this
/-- a contract out of a run from the entry -/
theorem Does.go {X : Xn} {d : Nat} {M : XM} {av : List Value} {w : va_W} {mc ms : Nat} {Q : Option Value → va_W → Prop} (hpl : plainName M.1.cls = true) (hn : (lg_sl av).length ≤ M.2.2.1) (ls : List (Option Value)) (nn : Nat) (hls : (av.flatMap (fun v => if v.category = 2 then [some v, none] else [some v])) ++ List.replicate nn none = ls) (h : Runs X d M mc ms Q 0 ls [] 0 0 w) : Does X d M av w mc ms Q := by
  refine Does.of hpl hn ls (fun i v hi => ?_) h
  subst hls
  have h2 : (av.flatMap (fun v => if v.category = 2 then [some v, none] else [some v]))[i]? = some (some v) := by
    by_cases hl : i < (av.flatMap (fun v => if v.category = 2 then [some v, none] else [some v])).length
    · rw [List.getElem?_append_left hl] at hi; exact hi
    · rw [List.getElem?_append_right (by omega), List.getElem?_replicate] at hi
      split at hi <;> simp at hi
  have := Xent_ok av 0 i v h2
  rwa [Nat.zero_add] at this
theorem r_icmp_eqN {X : Xn} {d : Nat} {M : XM} {mc ms : Nat} {Q : Option Value → va_W → Prop} {pc : Nat} {ls : List (Option Value)} {rest : List Value} {k j : Nat} {w : va_W} {off : Int} (a b : Nat) (ha : a < 2 ^ 31) (hb : b < 2 ^ 31) (pc2 pct : Nat) (hp : pc + 3 = pc2) (ht : (pc : Int) + off = (pct : Int)) (hd : decode M.2.1 pc = .ok (.if_icmp .eq off, 3)) (kt : a = b → Runs X d M mc ms Q pct ls rest k j w) (kf : ¬ a = b → Runs X d M mc ms Q pc2 ls rest k j w) : Runs X d M mc ms Q pc ls (.int (nI b) :: .int (nI a) :: rest) k j w := r_icmp_eq pc2 pct hp ht hd (fun h => kt ((nI_eq ha hb).mp h)) (fun h => kf (fun z => h ((nI_eq ha hb).mpr z)))
theorem r_icmp_eqN_t {X : Xn} {d : Nat} {M : XM} {mc ms : Nat} {Q : Option Value → va_W → Prop} {pc : Nat} {ls : List (Option Value)} {rest : List Value} {k j : Nat} {w : va_W} {off : Int} (a b : Nat) (ha : a < 2 ^ 31) (hb : b < 2 ^ 31) (pct : Nat) (ht : (pc : Int) + off = (pct : Int)) (hd : decode M.2.1 pc = .ok (.if_icmp .eq off, 3)) (hc : a = b) (kt : Runs X d M mc ms Q pct ls rest k j w) : Runs X d M mc ms Q pc ls (.int (nI b) :: .int (nI a) :: rest) k j w := r_icmp_eqN a b ha hb (pc + 3) pct rfl ht hd (fun _ => kt) (fun h => absurd hc (by first | omega | simpa using h))
theorem r_icmp_eqN_f {X : Xn} {d : Nat} {M : XM} {mc ms : Nat} {Q : Option Value → va_W → Prop} {pc : Nat} {ls : List (Option Value)} {rest : List Value} {k j : Nat} {w : va_W} {off : Int} (a b : Nat) (ha : a < 2 ^ 31) (hb : b < 2 ^ 31) (pc2 : Nat) (hp : pc + 3 = pc2) (pct : Nat) (ht : (pc : Int) + off = (pct : Int)) (hd : decode M.2.1 pc = .ok (.if_icmp .eq off, 3)) (hc : ¬ a = b) (kf : Runs X d M mc ms Q pc2 ls rest k j w) : Runs X d M mc ms Q pc ls (.int (nI b) :: .int (nI a) :: rest) k j w := r_icmp_eqN a b ha hb pc2 pct hp ht hd (fun h => absurd hc (by first | omega | simpa using h)) (fun _ => kf)
theorem r_icmp_neN {X : Xn} {d : Nat} {M : XM} {mc ms : Nat} {Q : Option Value → va_W → Prop} {pc : Nat} {ls : List (Option Value)} {rest : List Value} {k j : Nat} {w : va_W} {off : Int} (a b : Nat) (ha : a < 2 ^ 31) (hb : b < 2 ^ 31) (pc2 pct : Nat) (hp : pc + 3 = pc2) (ht : (pc : Int) + off = (pct : Int)) (hd : decode M.2.1 pc = .ok (.if_icmp .ne off, 3)) (kt : ¬ a = b → Runs X d M mc ms Q pct ls rest k j w) (kf : a = b → Runs X d M mc ms Q pc2 ls rest k j w) : Runs X d M mc ms Q pc ls (.int (nI b) :: .int (nI a) :: rest) k j w := r_icmp_ne pc2 pct hp ht hd (fun h => kt (fun z => h ((nI_eq ha hb).mpr z))) (fun h => kf ((nI_eq ha hb).mp h))
theorem r_icmp_neN_t {X : Xn} {d : Nat} {M : XM} {mc ms : Nat} {Q : Option Value → va_W → Prop} {pc : Nat} {ls : List (Option Value)} {rest : List Value} {k j : Nat} {w : va_W} {off : Int} (a b : Nat) (ha : a < 2 ^ 31) (hb : b < 2 ^ 31) (pct : Nat) (ht : (pc : Int) + off = (pct : Int)) (hd : decode M.2.1 pc = .ok (.if_icmp .ne off, 3)) (hc : ¬ a = b) (kt : Runs X d M mc ms Q pct ls rest k j w) : Runs X d M mc ms Q pc ls (.int (nI b) :: .int (nI a) :: rest) k j w := r_icmp_neN a b ha hb (pc + 3) pct rfl ht hd (fun _ => kt) (fun h => absurd hc (by first | omega | simpa using h))
theorem r_icmp_neN_f {X : Xn} {d : Nat} {M : XM} {mc ms : Nat} {Q : Option Value → va_W → Prop} {pc : Nat} {ls : List (Option Value)} {rest : List Value} {k j : Nat} {w : va_W} {off : Int} (a b : Nat) (ha : a < 2 ^ 31) (hb : b < 2 ^ 31) (pc2 : Nat) (hp : pc + 3 = pc2) (pct : Nat) (ht : (pc : Int) + off = (pct : Int)) (hd : decode M.2.1 pc = .ok (.if_icmp .ne off, 3)) (hc : a = b) (kf : Runs X d M mc ms Q pc2 ls rest k j w) : Runs X d M mc ms Q pc ls (.int (nI b) :: .int (nI a) :: rest) k j w := r_icmp_neN a b ha hb pc2 pct hp ht hd (fun h => absurd hc (by first | omega | simpa using h)) (fun _ => kf)
theorem r_icmp_ltN {X : Xn} {d : Nat} {M : XM} {mc ms : Nat} {Q : Option Value → va_W → Prop} {pc : Nat} {ls : List (Option Value)} {rest : List Value} {k j : Nat} {w : va_W} {off : Int} (a b : Nat) (ha : a < 2 ^ 31) (hb : b < 2 ^ 31) (pc2 pct : Nat) (hp : pc + 3 = pc2) (ht : (pc : Int) + off = (pct : Int)) (hd : decode M.2.1 pc = .ok (.if_icmp .lt off, 3)) (kt : a < b → Runs X d M mc ms Q pct ls rest k j w) (kf : b ≤ a → Runs X d M mc ms Q pc2 ls rest k j w) : Runs X d M mc ms Q pc ls (.int (nI b) :: .int (nI a) :: rest) k j w := r_icmp_lt pc2 pct hp ht hd (fun h => kt ((nI_ltI ha hb).mp h)) (fun h => kf (Nat.not_lt.mp (fun z => h ((nI_ltI ha hb).mpr z))))
theorem r_icmp_ltN_t {X : Xn} {d : Nat} {M : XM} {mc ms : Nat} {Q : Option Value → va_W → Prop} {pc : Nat} {ls : List (Option Value)} {rest : List Value} {k j : Nat} {w : va_W} {off : Int} (a b : Nat) (ha : a < 2 ^ 31) (hb : b < 2 ^ 31) (pct : Nat) (ht : (pc : Int) + off = (pct : Int)) (hd : decode M.2.1 pc = .ok (.if_icmp .lt off, 3)) (hc : a < b) (kt : Runs X d M mc ms Q pct ls rest k j w) : Runs X d M mc ms Q pc ls (.int (nI b) :: .int (nI a) :: rest) k j w := r_icmp_ltN a b ha hb (pc + 3) pct rfl ht hd (fun _ => kt) (fun h => absurd hc (by first | omega | simpa using h))
theorem r_icmp_ltN_f {X : Xn} {d : Nat} {M : XM} {mc ms : Nat} {Q : Option Value → va_W → Prop} {pc : Nat} {ls : List (Option Value)} {rest : List Value} {k j : Nat} {w : va_W} {off : Int} (a b : Nat) (ha : a < 2 ^ 31) (hb : b < 2 ^ 31) (pc2 : Nat) (hp : pc + 3 = pc2) (pct : Nat) (ht : (pc : Int) + off = (pct : Int)) (hd : decode M.2.1 pc = .ok (.if_icmp .lt off, 3)) (hc : b ≤ a) (kf : Runs X d M mc ms Q pc2 ls rest k j w) : Runs X d M mc ms Q pc ls (.int (nI b) :: .int (nI a) :: rest) k j w := r_icmp_ltN a b ha hb pc2 pct hp ht hd (fun h => absurd hc (by first | omega | simpa using h)) (fun _ => kf)
theorem r_icmp_geN {X : Xn} {d : Nat} {M : XM} {mc ms : Nat} {Q : Option Value → va_W → Prop} {pc : Nat} {ls : List (Option Value)} {rest : List Value} {k j : Nat} {w : va_W} {off : Int} (a b : Nat) (ha : a < 2 ^ 31) (hb : b < 2 ^ 31) (pc2 pct : Nat) (hp : pc + 3 = pc2) (ht : (pc : Int) + off = (pct : Int)) (hd : decode M.2.1 pc = .ok (.if_icmp .ge off, 3)) (kt : b ≤ a → Runs X d M mc ms Q pct ls rest k j w) (kf : a < b → Runs X d M mc ms Q pc2 ls rest k j w) : Runs X d M mc ms Q pc ls (.int (nI b) :: .int (nI a) :: rest) k j w := r_icmp_ge pc2 pct hp ht hd (fun h => kt ((nI_leI hb ha).mp h)) (fun h => kf (Nat.not_le.mp (fun z => h ((nI_leI hb ha).mpr z))))
theorem r_icmp_geN_t {X : Xn} {d : Nat} {M : XM} {mc ms : Nat} {Q : Option Value → va_W → Prop} {pc : Nat} {ls : List (Option Value)} {rest : List Value} {k j : Nat} {w : va_W} {off : Int} (a b : Nat) (ha : a < 2 ^ 31) (hb : b < 2 ^ 31) (pct : Nat) (ht : (pc : Int) + off = (pct : Int)) (hd : decode M.2.1 pc = .ok (.if_icmp .ge off, 3)) (hc : b ≤ a) (kt : Runs X d M mc ms Q pct ls rest k j w) : Runs X d M mc ms Q pc ls (.int (nI b) :: .int (nI a) :: rest) k j w := r_icmp_geN a b ha hb (pc + 3) pct rfl ht hd (fun _ => kt) (fun h => absurd hc (by first | omega | simpa using h))
theorem r_icmp_geN_f {X : Xn} {d : Nat} {M : XM} {mc ms : Nat} {Q : Option Value → va_W → Prop} {pc : Nat} {ls : List (Option Value)} {rest : List Value} {k j : Nat} {w : va_W} {off : Int} (a b : Nat) (ha : a < 2 ^ 31) (hb : b < 2 ^ 31) (pc2 : Nat) (hp : pc + 3 = pc2) (pct : Nat) (ht : (pc : Int) + off = (pct : Int)) (hd : decode M.2.1 pc = .ok (.if_icmp .ge off, 3)) (hc : a < b) (kf : Runs X d M mc ms Q pc2 ls rest k j w) : Runs X d M mc ms Q pc ls (.int (nI b) :: .int (nI a) :: rest) k j w := r_icmp_geN a b ha hb pc2 pct hp ht hd (fun h => absurd hc (by first | omega | simpa using h)) (fun _ => kf)
theorem r_icmp_gtN {X : Xn} {d : Nat} {M : XM} {mc ms : Nat} {Q : Option Value → va_W → Prop} {pc : Nat} {ls : List (Option Value)} {rest : List Value} {k j : Nat} {w : va_W} {off : Int} (a b : Nat) (ha : a < 2 ^ 31) (hb : b < 2 ^ 31) (pc2 pct : Nat) (hp : pc + 3 = pc2) (ht : (pc : Int) + off = (pct : Int)) (hd : decode M.2.1 pc = .ok (.if_icmp .gt off, 3)) (kt : b < a → Runs X d M mc ms Q pct ls rest k j w) (kf : a ≤ b → Runs X d M mc ms Q pc2 ls rest k j w) : Runs X d M mc ms Q pc ls (.int (nI b) :: .int (nI a) :: rest) k j w := r_icmp_gt pc2 pct hp ht hd (fun h => kt ((nI_ltI hb ha).mp h)) (fun h => kf (Nat.not_lt.mp (fun z => h ((nI_ltI hb ha).mpr z))))
theorem r_icmp_gtN_t {X : Xn} {d : Nat} {M : XM} {mc ms : Nat} {Q : Option Value → va_W → Prop} {pc : Nat} {ls : List (Option Value)} {rest : List Value} {k j : Nat} {w : va_W} {off : Int} (a b : Nat) (ha : a < 2 ^ 31) (hb : b < 2 ^ 31) (pct : Nat) (ht : (pc : Int) + off = (pct : Int)) (hd : decode M.2.1 pc = .ok (.if_icmp .gt off, 3)) (hc : b < a) (kt : Runs X d M mc ms Q pct ls rest k j w) : Runs X d M mc ms Q pc ls (.int (nI b) :: .int (nI a) :: rest) k j w := r_icmp_gtN a b ha hb (pc + 3) pct rfl ht hd (fun _ => kt) (fun h => absurd hc (by first | omega | simpa using h))
theorem r_icmp_gtN_f {X : Xn} {d : Nat} {M : XM} {mc ms : Nat} {Q : Option Value → va_W → Prop} {pc : Nat} {ls : List (Option Value)} {rest : List Value} {k j : Nat} {w : va_W} {off : Int} (a b : Nat) (ha : a < 2 ^ 31) (hb : b < 2 ^ 31) (pc2 : Nat) (hp : pc + 3 = pc2) (pct : Nat) (ht : (pc : Int) + off = (pct : Int)) (hd : decode M.2.1 pc = .ok (.if_icmp .gt off, 3)) (hc : a ≤ b) (kf : Runs X d M mc ms Q pc2 ls rest k j w) : Runs X d M mc ms Q pc ls (.int (nI b) :: .int (nI a) :: rest) k j w := r_icmp_gtN a b ha hb pc2 pct hp ht hd (fun h => absurd hc (by first | omega | simpa using h)) (fun _ => kf)
theorem r_icmp_leN {X : Xn} {d : Nat} {M : XM} {mc ms : Nat} {Q : Option Value → va_W → Prop} {pc : Nat} {ls : List (Option Value)} {rest : List Value} {k j : Nat} {w : va_W} {off : Int} (a b : Nat) (ha : a < 2 ^ 31) (hb : b < 2 ^ 31) (pc2 pct : Nat) (hp : pc + 3 = pc2) (ht : (pc : Int) + off = (pct : Int)) (hd : decode M.2.1 pc = .ok (.if_icmp .le off, 3)) (kt : a ≤ b → Runs X d M mc ms Q pct ls rest k j w) (kf : b < a → Runs X d M mc ms Q pc2 ls rest k j w) : Runs X d M mc ms Q pc ls (.int (nI b) :: .int (nI a) :: rest) k j w := r_icmp_le pc2 pct hp ht hd (fun h => kt ((nI_leI ha hb).mp h)) (fun h => kf (Nat.not_le.mp (fun z => h ((nI_leI ha hb).mpr z))))
theorem r_icmp_leN_t {X : Xn} {d : Nat} {M : XM} {mc ms : Nat} {Q : Option Value → va_W → Prop} {pc : Nat} {ls : List (Option Value)} {rest : List Value} {k j : Nat} {w : va_W} {off : Int} (a b : Nat) (ha : a < 2 ^ 31) (hb : b < 2 ^ 31) (pct : Nat) (ht : (pc : Int) + off = (pct : Int)) (hd : decode M.2.1 pc = .ok (.if_icmp .le off, 3)) (hc : a ≤ b) (kt : Runs X d M mc ms Q pct ls rest k j w) : Runs X d M mc ms Q pc ls (.int (nI b) :: .int (nI a) :: rest) k j w := r_icmp_leN a b ha hb (pc + 3) pct rfl ht hd (fun _ => kt) (fun h => absurd hc (by first | omega | simpa using h))
theorem r_icmp_leN_f {X : Xn} {d : Nat} {M : XM} {mc ms : Nat} {Q : Option Value → va_W → Prop} {pc : Nat} {ls : List (Option Value)} {rest : List Value} {k j : Nat} {w : va_W} {off : Int} (a b : Nat) (ha : a < 2 ^ 31) (hb : b < 2 ^ 31) (pc2 : Nat) (hp : pc + 3 = pc2) (pct : Nat) (ht : (pc : Int) + off = (pct : Int)) (hd : decode M.2.1 pc = .ok (.if_icmp .le off, 3)) (hc : b < a) (kf : Runs X d M mc ms Q pc2 ls rest k j w) : Runs X d M mc ms Q pc ls (.int (nI b) :: .int (nI a) :: rest) k j w := r_icmp_leN a b ha hb pc2 pct hp ht hd (fun h => absurd hc (by first | omega | simpa using h)) (fun _ => kf)
theorem r_if_eqN {X : Xn} {d : Nat} {M : XM} {mc ms : Nat} {Q : Option Value → va_W → Prop} {pc : Nat} {ls : List (Option Value)} {rest : List Value} {k j : Nat} {w : va_W} {off : Int} (a : Nat) (ha : a < 2 ^ 31) (pc2 pct : Nat) (hp : pc + 3 = pc2) (ht : (pc : Int) + off = (pct : Int)) (hd : decode M.2.1 pc = .ok (.ifCond .eq off, 3)) (kt : a = 0 → Runs X d M mc ms Q pct ls rest k j w) (kf : ¬ a = 0 → Runs X d M mc ms Q pc2 ls rest k j w) : Runs X d M mc ms Q pc ls (.int (nI a) :: rest) k j w := r_if_eq pc2 pct hp ht hd (fun h => kt ((nI_e0 ha).mp h)) (fun h => kf (fun z => h ((nI_e0 ha).mpr z)))
theorem r_if_eqN_t {X : Xn} {d : Nat} {M : XM} {mc ms : Nat} {Q : Option Value → va_W → Prop} {pc : Nat} {ls : List (Option Value)} {rest : List Value} {k j : Nat} {w : va_W} {off : Int} (a : Nat) (ha : a < 2 ^ 31) (pct : Nat) (ht : (pc : Int) + off = (pct : Int)) (hd : decode M.2.1 pc = .ok (.ifCond .eq off, 3)) (hc : a = 0) (kt : Runs X d M mc ms Q pct ls rest k j w) : Runs X d M mc ms Q pc ls (.int (nI a) :: rest) k j w := r_if_eqN a ha (pc + 3) pct rfl ht hd (fun _ => kt) (fun h => absurd hc (by first | omega | simpa using h))
theorem r_if_eqN_f {X : Xn} {d : Nat} {M : XM} {mc ms : Nat} {Q : Option Value → va_W → Prop} {pc : Nat} {ls : List (Option Value)} {rest : List Value} {k j : Nat} {w : va_W} {off : Int} (a : Nat) (ha : a < 2 ^ 31) (pc2 : Nat) (hp : pc + 3 = pc2) (pct : Nat) (ht : (pc : Int) + off = (pct : Int)) (hd : decode M.2.1 pc = .ok (.ifCond .eq off, 3)) (hc : ¬ a = 0) (kf : Runs X d M mc ms Q pc2 ls rest k j w) : Runs X d M mc ms Q pc ls (.int (nI a) :: rest) k j w := r_if_eqN a ha pc2 pct hp ht hd (fun h => absurd hc (by first | omega | simpa using h)) (fun _ => kf)
theorem r_if_neN {X : Xn} {d : Nat} {M : XM} {mc ms : Nat} {Q : Option Value → va_W → Prop} {pc : Nat} {ls : List (Option Value)} {rest : List Value} {k j : Nat} {w : va_W} {off : Int} (a : Nat) (ha : a < 2 ^ 31) (pc2 pct : Nat) (hp : pc + 3 = pc2) (ht : (pc : Int) + off = (pct : Int)) (hd : decode M.2.1 pc = .ok (.ifCond .ne off, 3)) (kt : ¬ a = 0 → Runs X d M mc ms Q pct ls rest k j w) (kf : a = 0 → Runs X d M mc ms Q pc2 ls rest k j w) : Runs X d M mc ms Q pc ls (.int (nI a) :: rest) k j w := r_if_ne pc2 pct hp ht hd (fun h => kt (fun z => h ((nI_e0 ha).mpr z))) (fun h => kf ((nI_e0 ha).mp h))
theorem r_if_neN_t {X : Xn} {d : Nat} {M : XM} {mc ms : Nat} {Q : Option Value → va_W → Prop} {pc : Nat} {ls : List (Option Value)} {rest : List Value} {k j : Nat} {w : va_W} {off : Int} (a : Nat) (ha : a < 2 ^ 31) (pct : Nat) (ht : (pc : Int) + off = (pct : Int)) (hd : decode M.2.1 pc = .ok (.ifCond .ne off, 3)) (hc : ¬ a = 0) (kt : Runs X d M mc ms Q pct ls rest k j w) : Runs X d M mc ms Q pc ls (.int (nI a) :: rest) k j w := r_if_neN a ha (pc + 3) pct rfl ht hd (fun _ => kt) (fun h => absurd hc (by first | omega | simpa using h))
theorem r_if_neN_f {X : Xn} {d : Nat} {M : XM} {mc ms : Nat} {Q : Option Value → va_W → Prop} {pc : Nat} {ls : List (Option Value)} {rest : List Value} {k j : Nat} {w : va_W} {off : Int} (a : Nat) (ha : a < 2 ^ 31) (pc2 : Nat) (hp : pc + 3 = pc2) (pct : Nat) (ht : (pc : Int) + off = (pct : Int)) (hd : decode M.2.1 pc = .ok (.ifCond .ne off, 3)) (hc : a = 0) (kf : Runs X d M mc ms Q pc2 ls rest k j w) : Runs X d M mc ms Q pc ls (.int (nI a) :: rest) k j w := r_if_neN a ha pc2 pct hp ht hd (fun h => absurd hc (by first | omega | simpa using h)) (fun _ => kf)
theorem r_if_ltN {X : Xn} {d : Nat} {M : XM} {mc ms : Nat} {Q : Option Value → va_W → Prop} {pc : Nat} {ls : List (Option Value)} {rest : List Value} {k j : Nat} {w : va_W} {off : Int} (a : Nat) (ha : a < 2 ^ 31) (pc2 pct : Nat) (hp : pc + 3 = pc2) (ht : (pc : Int) + off = (pct : Int)) (hd : decode M.2.1 pc = .ok (.ifCond .lt off, 3)) (kt : a < 0 → Runs X d M mc ms Q pct ls rest k j w) (kf : 0 ≤ a → Runs X d M mc ms Q pc2 ls rest k j w) : Runs X d M mc ms Q pc ls (.int (nI a) :: rest) k j w := r_if_lt pc2 pct hp ht hd (fun h => kt ((nI_l0 ha).mp h)) (fun h => kf (Nat.zero_le _))
theorem r_if_ltN_t {X : Xn} {d : Nat} {M : XM} {mc ms : Nat} {Q : Option Value → va_W → Prop} {pc : Nat} {ls : List (Option Value)} {rest : List Value} {k j : Nat} {w : va_W} {off : Int} (a : Nat) (ha : a < 2 ^ 31) (pct : Nat) (ht : (pc : Int) + off = (pct : Int)) (hd : decode M.2.1 pc = .ok (.ifCond .lt off, 3)) (hc : a < 0) (kt : Runs X d M mc ms Q pct ls rest k j w) : Runs X d M mc ms Q pc ls (.int (nI a) :: rest) k j w := r_if_ltN a ha (pc + 3) pct rfl ht hd (fun _ => kt) (fun h => absurd hc (by first | omega | simpa using h))
theorem r_if_ltN_f {X : Xn} {d : Nat} {M : XM} {mc ms : Nat} {Q : Option Value → va_W → Prop} {pc : Nat} {ls : List (Option Value)} {rest : List Value} {k j : Nat} {w : va_W} {off : Int} (a : Nat) (ha : a < 2 ^ 31) (pc2 : Nat) (hp : pc + 3 = pc2) (pct : Nat) (ht : (pc : Int) + off = (pct : Int)) (hd : decode M.2.1 pc = .ok (.ifCond .lt off, 3)) (hc : 0 ≤ a) (kf : Runs X d M mc ms Q pc2 ls rest k j w) : Runs X d M mc ms Q pc ls (.int (nI a) :: rest) k j w := r_if_ltN a ha pc2 pct hp ht hd (fun h => absurd hc (by first | omega | simpa using h)) (fun _ => kf)
theorem r_if_geN {X : Xn} {d : Nat} {M : XM} {mc ms : Nat} {Q : Option Value → va_W → Prop} {pc : Nat} {ls : List (Option Value)} {rest : List Value} {k j : Nat} {w : va_W} {off : Int} (a : Nat) (ha : a < 2 ^ 31) (pc2 pct : Nat) (hp : pc + 3 = pc2) (ht : (pc : Int) + off = (pct : Int)) (hd : decode M.2.1 pc = .ok (.ifCond .ge off, 3)) (kt : 0 ≤ a → Runs X d M mc ms Q pct ls rest k j w) (kf : a < 0 → Runs X d M mc ms Q pc2 ls rest k j w) : Runs X d M mc ms Q pc ls (.int (nI a) :: rest) k j w := r_if_ge pc2 pct hp ht hd (fun h => kt (Nat.zero_le _)) (fun h => kf (absurd ((nI_ge0 ha).mpr (Nat.zero_le a)) h))
theorem r_if_geN_t {X : Xn} {d : Nat} {M : XM} {mc ms : Nat} {Q : Option Value → va_W → Prop} {pc : Nat} {ls : List (Option Value)} {rest : List Value} {k j : Nat} {w : va_W} {off : Int} (a : Nat) (ha : a < 2 ^ 31) (pct : Nat) (ht : (pc : Int) + off = (pct : Int)) (hd : decode M.2.1 pc = .ok (.ifCond .ge off, 3)) (hc : 0 ≤ a) (kt : Runs X d M mc ms Q pct ls rest k j w) : Runs X d M mc ms Q pc ls (.int (nI a) :: rest) k j w := r_if_geN a ha (pc + 3) pct rfl ht hd (fun _ => kt) (fun h => absurd hc (by first | omega | simpa using h))
theorem r_if_geN_f {X : Xn} {d : Nat} {M : XM} {mc ms : Nat} {Q : Option Value → va_W → Prop} {pc : Nat} {ls : List (Option Value)} {rest : List Value} {k j : Nat} {w : va_W} {off : Int} (a : Nat) (ha : a < 2 ^ 31) (pc2 : Nat) (hp : pc + 3 = pc2) (pct : Nat) (ht : (pc : Int) + off = (pct : Int)) (hd : decode M.2.1 pc = .ok (.ifCond .ge off, 3)) (hc : a < 0) (kf : Runs X d M mc ms Q pc2 ls rest k j w) : Runs X d M mc ms Q pc ls (.int (nI a) :: rest) k j w := r_if_geN a ha pc2 pct hp ht hd (fun h => absurd hc (by first | omega | simpa using h)) (fun _ => kf)
theorem r_if_gtN {X : Xn} {d : Nat} {M : XM} {mc ms : Nat} {Q : Option Value → va_W → Prop} {pc : Nat} {ls : List (Option Value)} {rest : List Value} {k j : Nat} {w : va_W} {off : Int} (a : Nat) (ha : a < 2 ^ 31) (pc2 pct : Nat) (hp : pc + 3 = pc2) (ht : (pc : Int) + off = (pct : Int)) (hd : decode M.2.1 pc = .ok (.ifCond .gt off, 3)) (kt : 0 < a → Runs X d M mc ms Q pct ls rest k j w) (kf : a ≤ 0 → Runs X d M mc ms Q pc2 ls rest k j w) : Runs X d M mc ms Q pc ls (.int (nI a) :: rest) k j w := r_if_gt pc2 pct hp ht hd (fun h => kt ((nI_g0 ha).mp h)) (fun h => kf (Nat.not_lt.mp (fun z => h ((nI_g0 ha).mpr z))))
theorem r_if_gtN_t {X : Xn} {d : Nat} {M : XM} {mc ms : Nat} {Q : Option Value → va_W → Prop} {pc : Nat} {ls : List (Option Value)} {rest : List Value} {k j : Nat} {w : va_W} {off : Int} (a : Nat) (ha : a < 2 ^ 31) (pct : Nat) (ht : (pc : Int) + off = (pct : Int)) (hd : decode M.2.1 pc = .ok (.ifCond .gt off, 3)) (hc : 0 < a) (kt : Runs X d M mc ms Q pct ls rest k j w) : Runs X d M mc ms Q pc ls (.int (nI a) :: rest) k j w := r_if_gtN a ha (pc + 3) pct rfl ht hd (fun _ => kt) (fun h => absurd hc (by first | omega | simpa using h))
theorem r_if_gtN_f {X : Xn} {d : Nat} {M : XM} {mc ms : Nat} {Q : Option Value → va_W → Prop} {pc : Nat} {ls : List (Option Value)} {rest : List Value} {k j : Nat} {w : va_W} {off : Int} (a : Nat) (ha : a < 2 ^ 31) (pc2 : Nat) (hp : pc + 3 = pc2) (pct : Nat) (ht : (pc : Int) + off = (pct : Int)) (hd : decode M.2.1 pc = .ok (.ifCond .gt off, 3)) (hc : a ≤ 0) (kf : Runs X d M mc ms Q pc2 ls rest k j w) : Runs X d M mc ms Q pc ls (.int (nI a) :: rest) k j w := r_if_gtN a ha pc2 pct hp ht hd (fun h => absurd hc (by first | omega | simpa using h)) (fun _ => kf)
theorem r_if_leN {X : Xn} {d : Nat} {M : XM} {mc ms : Nat} {Q : Option Value → va_W → Prop} {pc : Nat} {ls : List (Option Value)} {rest : List Value} {k j : Nat} {w : va_W} {off : Int} (a : Nat) (ha : a < 2 ^ 31) (pc2 pct : Nat) (hp : pc + 3 = pc2) (ht : (pc : Int) + off = (pct : Int)) (hd : decode M.2.1 pc = .ok (.ifCond .le off, 3)) (kt : a ≤ 0 → Runs X d M mc ms Q pct ls rest k j w) (kf : 0 < a → Runs X d M mc ms Q pc2 ls rest k j w) : Runs X d M mc ms Q pc ls (.int (nI a) :: rest) k j w := r_if_le pc2 pct hp ht hd (fun h => kt ((nI_le0 ha).mp h)) (fun h => kf (Nat.not_le.mp (fun z => h ((nI_le0 ha).mpr z))))
theorem r_if_leN_t {X : Xn} {d : Nat} {M : XM} {mc ms : Nat} {Q : Option Value → va_W → Prop} {pc : Nat} {ls : List (Option Value)} {rest : List Value} {k j : Nat} {w : va_W} {off : Int} (a : Nat) (ha : a < 2 ^ 31) (pct : Nat) (ht : (pc : Int) + off = (pct : Int)) (hd : decode M.2.1 pc = .ok (.ifCond .le off, 3)) (hc : a ≤ 0) (kt : Runs X d M mc ms Q pct ls rest k j w) : Runs X d M mc ms Q pc ls (.int (nI a) :: rest) k j w := r_if_leN a ha (pc + 3) pct rfl ht hd (fun _ => kt) (fun h => absurd hc (by first | omega | simpa using h))
theorem r_if_leN_f {X : Xn} {d : Nat} {M : XM} {mc ms : Nat} {Q : Option Value → va_W → Prop} {pc : Nat} {ls : List (Option Value)} {rest : List Value} {k j : Nat} {w : va_W} {off : Int} (a : Nat) (ha : a < 2 ^ 31) (pc2 : Nat) (hp : pc + 3 = pc2) (pct : Nat) (ht : (pc : Int) + off = (pct : Int)) (hd : decode M.2.1 pc = .ok (.ifCond .le off, 3)) (hc : 0 < a) (kf : Runs X d M mc ms Q pc2 ls rest k j w) : Runs X d M mc ms Q pc ls (.int (nI a) :: rest) k j w := r_if_leN a ha pc2 pct hp ht hd (fun h => absurd hc (by first | omega | simpa using h)) (fun _ => kf)
theorem r_if_eqB {X : Xn} {d : Nat} {M : XM} {mc ms : Nat} {Q : Option Value → va_W → Prop} {pc : Nat} {ls : List (Option Value)} {rest : List Value} {k j : Nat} {w : va_W} {off : Int} {b : Bool}  (pc2 pct : Nat) (hp : pc + 3 = pc2) (ht : (pc : Int) + off = (pct : Int)) (hd : decode M.2.1 pc = .ok (.ifCond .eq off, 3)) (kt : b = false → Runs X d M mc ms Q pct ls rest k j w) (kf : b = true → Runs X d M mc ms Q pc2 ls rest k j w) : Runs X d M mc ms Q pc ls (.int (bI b) :: rest) k j w := r_if_eq pc2 pct hp ht hd (fun h => kt (bI_0.mp h)) (fun h => kf (bI_n0.mp h))
theorem r_if_eqB_t {X : Xn} {d : Nat} {M : XM} {mc ms : Nat} {Q : Option Value → va_W → Prop} {pc : Nat} {ls : List (Option Value)} {rest : List Value} {k j : Nat} {w : va_W} {off : Int} {b : Bool}  (pct : Nat) (ht : (pc : Int) + off = (pct : Int)) (hd : decode M.2.1 pc = .ok (.ifCond .eq off, 3)) (hc : b = false) (kt : Runs X d M mc ms Q pct ls rest k j w) : Runs X d M mc ms Q pc ls (.int (bI b) :: rest) k j w := r_if_eqB   (pc + 3) pct rfl ht hd (fun _ => kt) (fun h => absurd hc (by first | omega | simpa using h))
theorem r_if_eqB_f {X : Xn} {d : Nat} {M : XM} {mc ms : Nat} {Q : Option Value → va_W → Prop} {pc : Nat} {ls : List (Option Value)} {rest : List Value} {k j : Nat} {w : va_W} {off : Int} {b : Bool}  (pc2 : Nat) (hp : pc + 3 = pc2) (pct : Nat) (ht : (pc : Int) + off = (pct : Int)) (hd : decode M.2.1 pc = .ok (.ifCond .eq off, 3)) (hc : b = true) (kf : Runs X d M mc ms Q pc2 ls rest k j w) : Runs X d M mc ms Q pc ls (.int (bI b) :: rest) k j w := r_if_eqB   pc2 pct hp ht hd (fun h => absurd hc (by first | omega | simpa using h)) (fun _ => kf)
theorem r_if_neB {X : Xn} {d : Nat} {M : XM} {mc ms : Nat} {Q : Option Value → va_W → Prop} {pc : Nat} {ls : List (Option Value)} {rest : List Value} {k j : Nat} {w : va_W} {off : Int} {b : Bool}  (pc2 pct : Nat) (hp : pc + 3 = pc2) (ht : (pc : Int) + off = (pct : Int)) (hd : decode M.2.1 pc = .ok (.ifCond .ne off, 3)) (kt : b = true → Runs X d M mc ms Q pct ls rest k j w) (kf : b = false → Runs X d M mc ms Q pc2 ls rest k j w) : Runs X d M mc ms Q pc ls (.int (bI b) :: rest) k j w := r_if_ne pc2 pct hp ht hd (fun h => kt (bI_n0.mp h)) (fun h => kf (bI_0.mp h))
theorem r_if_neB_t {X : Xn} {d : Nat} {M : XM} {mc ms : Nat} {Q : Option Value → va_W → Prop} {pc : Nat} {ls : List (Option Value)} {rest : List Value} {k j : Nat} {w : va_W} {off : Int} {b : Bool}  (pct : Nat) (ht : (pc : Int) + off = (pct : Int)) (hd : decode M.2.1 pc = .ok (.ifCond .ne off, 3)) (hc : b = true) (kt : Runs X d M mc ms Q pct ls rest k j w) : Runs X d M mc ms Q pc ls (.int (bI b) :: rest) k j w := r_if_neB   (pc + 3) pct rfl ht hd (fun _ => kt) (fun h => absurd hc (by first | omega | simpa using h))
theorem r_if_neB_f {X : Xn} {d : Nat} {M : XM} {mc ms : Nat} {Q : Option Value → va_W → Prop} {pc : Nat} {ls : List (Option Value)} {rest : List Value} {k j : Nat} {w : va_W} {off : Int} {b : Bool}  (pc2 : Nat) (hp : pc + 3 = pc2) (pct : Nat) (ht : (pc : Int) + off = (pct : Int)) (hd : decode M.2.1 pc = .ok (.ifCond .ne off, 3)) (hc : b = false) (kf : Runs X d M mc ms Q pc2 ls rest k j w) : Runs X d M mc ms Q pc ls (.int (bI b) :: rest) k j w := r_if_neB   pc2 pct hp ht hd (fun h => absurd hc (by first | omega | simpa using h)) (fun _ => kf)
theorem lc_lt {a b : Nat} (ha : a < 2 ^ 63) (hb : b < 2 ^ 63) : lg_cmp (lN a) (lN b) < 0 ↔ a < b := (lg_cmp_lt _ _).trans (pk_lLT ha hb)
theorem lc_ge {a b : Nat} (ha : a < 2 ^ 63) (hb : b < 2 ^ 63) : 0 ≤ lg_cmp (lN a) (lN b) ↔ b ≤ a := (lg_cmp_ge _ _).trans (pk_lLE hb ha)
theorem lc_gt {a b : Nat} (ha : a < 2 ^ 63) (hb : b < 2 ^ 63) : 0 < lg_cmp (lN a) (lN b) ↔ b < a := (lg_cmp_gt _ _).trans (pk_lLT hb ha)
theorem lc_le {a b : Nat} (ha : a < 2 ^ 63) (hb : b < 2 ^ 63) : lg_cmp (lN a) (lN b) ≤ 0 ↔ a ≤ b := (lg_cmp_le _ _).trans (pk_lLE ha hb)
theorem r_if_ltL {X : Xn} {d : Nat} {M : XM} {mc ms : Nat} {Q : Option Value → va_W → Prop} {pc : Nat} {ls : List (Option Value)} {rest : List Value} {k j : Nat} {w : va_W} {off : Int} (a b : Nat) (ha : a < 2 ^ 63) (hb : b < 2 ^ 63) (pc2 pct : Nat) (hp : pc + 3 = pc2) (ht : (pc : Int) + off = (pct : Int)) (hd : decode M.2.1 pc = .ok (.ifCond .lt off, 3)) (kt : a < b → Runs X d M mc ms Q pct ls rest k j w) (kf : b ≤ a → Runs X d M mc ms Q pc2 ls rest k j w) : Runs X d M mc ms Q pc ls (.int (lg_cmp (lN a) (lN b)) :: rest) k j w := r_if_lt pc2 pct hp ht hd (fun h => kt ((lc_lt ha hb).mp h)) (fun h => kf (Nat.not_lt.mp (fun z => h ((lc_lt ha hb).mpr z))))
theorem r_if_ltL_t {X : Xn} {d : Nat} {M : XM} {mc ms : Nat} {Q : Option Value → va_W → Prop} {pc : Nat} {ls : List (Option Value)} {rest : List Value} {k j : Nat} {w : va_W} {off : Int} (a b : Nat) (ha : a < 2 ^ 63) (hb : b < 2 ^ 63) (pct : Nat) (ht : (pc : Int) + off = (pct : Int)) (hd : decode M.2.1 pc = .ok (.ifCond .lt off, 3)) (hc : a < b) (kt : Runs X d M mc ms Q pct ls rest k j w) : Runs X d M mc ms Q pc ls (.int (lg_cmp (lN a) (lN b)) :: rest) k j w := r_if_ltL a b ha hb (pc + 3) pct rfl ht hd (fun _ => kt) (fun h => absurd hc (by first | omega | simpa using h))
theorem r_if_ltL_f {X : Xn} {d : Nat} {M : XM} {mc ms : Nat} {Q : Option Value → va_W → Prop} {pc : Nat} {ls : List (Option Value)} {rest : List Value} {k j : Nat} {w : va_W} {off : Int} (a b : Nat) (ha : a < 2 ^ 63) (hb : b < 2 ^ 63) (pc2 : Nat) (hp : pc + 3 = pc2) (pct : Nat) (ht : (pc : Int) + off = (pct : Int)) (hd : decode M.2.1 pc = .ok (.ifCond .lt off, 3)) (hc : b ≤ a) (kf : Runs X d M mc ms Q pc2 ls rest k j w) : Runs X d M mc ms Q pc ls (.int (lg_cmp (lN a) (lN b)) :: rest) k j w := r_if_ltL a b ha hb pc2 pct hp ht hd (fun h => absurd hc (by first | omega | simpa using h)) (fun _ => kf)
theorem r_if_geL {X : Xn} {d : Nat} {M : XM} {mc ms : Nat} {Q : Option Value → va_W → Prop} {pc : Nat} {ls : List (Option Value)} {rest : List Value} {k j : Nat} {w : va_W} {off : Int} (a b : Nat) (ha : a < 2 ^ 63) (hb : b < 2 ^ 63) (pc2 pct : Nat) (hp : pc + 3 = pc2) (ht : (pc : Int) + off = (pct : Int)) (hd : decode M.2.1 pc = .ok (.ifCond .ge off, 3)) (kt : b ≤ a → Runs X d M mc ms Q pct ls rest k j w) (kf : a < b → Runs X d M mc ms Q pc2 ls rest k j w) : Runs X d M mc ms Q pc ls (.int (lg_cmp (lN a) (lN b)) :: rest) k j w := r_if_ge pc2 pct hp ht hd (fun h => kt ((lc_ge ha hb).mp h)) (fun h => kf (Nat.not_le.mp (fun z => h ((lc_ge ha hb).mpr z))))
theorem r_if_geL_t {X : Xn} {d : Nat} {M : XM} {mc ms : Nat} {Q : Option Value → va_W → Prop} {pc : Nat} {ls : List (Option Value)} {rest : List Value} {k j : Nat} {w : va_W} {off : Int} (a b : Nat) (ha : a < 2 ^ 63) (hb : b < 2 ^ 63) (pct : Nat) (ht : (pc : Int) + off = (pct : Int)) (hd : decode M.2.1 pc = .ok (.ifCond .ge off, 3)) (hc : b ≤ a) (kt : Runs X d M mc ms Q pct ls rest k j w) : Runs X d M mc ms Q pc ls (.int (lg_cmp (lN a) (lN b)) :: rest) k j w := r_if_geL a b ha hb (pc + 3) pct rfl ht hd (fun _ => kt) (fun h => absurd hc (by first | omega | simpa using h))
theorem r_if_geL_f {X : Xn} {d : Nat} {M : XM} {mc ms : Nat} {Q : Option Value → va_W → Prop} {pc : Nat} {ls : List (Option Value)} {rest : List Value} {k j : Nat} {w : va_W} {off : Int} (a b : Nat) (ha : a < 2 ^ 63) (hb : b < 2 ^ 63) (pc2 : Nat) (hp : pc + 3 = pc2) (pct : Nat) (ht : (pc : Int) + off = (pct : Int)) (hd : decode M.2.1 pc = .ok (.ifCond .ge off, 3)) (hc : a < b) (kf : Runs X d M mc ms Q pc2 ls rest k j w) : Runs X d M mc ms Q pc ls (.int (lg_cmp (lN a) (lN b)) :: rest) k j w := r_if_geL a b ha hb pc2 pct hp ht hd (fun h => absurd hc (by first | omega | simpa using h)) (fun _ => kf)
theorem r_if_gtL {X : Xn} {d : Nat} {M : XM} {mc ms : Nat} {Q : Option Value → va_W → Prop} {pc : Nat} {ls : List (Option Value)} {rest : List Value} {k j : Nat} {w : va_W} {off : Int} (a b : Nat) (ha : a < 2 ^ 63) (hb : b < 2 ^ 63) (pc2 pct : Nat) (hp : pc + 3 = pc2) (ht : (pc : Int) + off = (pct : Int)) (hd : decode M.2.1 pc = .ok (.ifCond .gt off, 3)) (kt : b < a → Runs X d M mc ms Q pct ls rest k j w) (kf : a ≤ b → Runs X d M mc ms Q pc2 ls rest k j w) : Runs X d M mc ms Q pc ls (.int (lg_cmp (lN a) (lN b)) :: rest) k j w := r_if_gt pc2 pct hp ht hd (fun h => kt ((lc_gt ha hb).mp h)) (fun h => kf (Nat.not_lt.mp (fun z => h ((lc_gt ha hb).mpr z))))
theorem r_if_gtL_t {X : Xn} {d : Nat} {M : XM} {mc ms : Nat} {Q : Option Value → va_W → Prop} {pc : Nat} {ls : List (Option Value)} {rest : List Value} {k j : Nat} {w : va_W} {off : Int} (a b : Nat) (ha : a < 2 ^ 63) (hb : b < 2 ^ 63) (pct : Nat) (ht : (pc : Int) + off = (pct : Int)) (hd : decode M.2.1 pc = .ok (.ifCond .gt off, 3)) (hc : b < a) (kt : Runs X d M mc ms Q pct ls rest k j w) : Runs X d M mc ms Q pc ls (.int (lg_cmp (lN a) (lN b)) :: rest) k j w := r_if_gtL a b ha hb (pc + 3) pct rfl ht hd (fun _ => kt) (fun h => absurd hc (by first | omega | simpa using h))
theorem r_if_gtL_f {X : Xn} {d : Nat} {M : XM} {mc ms : Nat} {Q : Option Value → va_W → Prop} {pc : Nat} {ls : List (Option Value)} {rest : List Value} {k j : Nat} {w : va_W} {off : Int} (a b : Nat) (ha : a < 2 ^ 63) (hb : b < 2 ^ 63) (pc2 : Nat) (hp : pc + 3 = pc2) (pct : Nat) (ht : (pc : Int) + off = (pct : Int)) (hd : decode M.2.1 pc = .ok (.ifCond .gt off, 3)) (hc : a ≤ b) (kf : Runs X d M mc ms Q pc2 ls rest k j w) : Runs X d M mc ms Q pc ls (.int (lg_cmp (lN a) (lN b)) :: rest) k j w := r_if_gtL a b ha hb pc2 pct hp ht hd (fun h => absurd hc (by first | omega | simpa using h)) (fun _ => kf)
theorem r_if_leL {X : Xn} {d : Nat} {M : XM} {mc ms : Nat} {Q : Option Value → va_W → Prop} {pc : Nat} {ls : List (Option Value)} {rest : List Value} {k j : Nat} {w : va_W} {off : Int} (a b : Nat) (ha : a < 2 ^ 63) (hb : b < 2 ^ 63) (pc2 pct : Nat) (hp : pc + 3 = pc2) (ht : (pc : Int) + off = (pct : Int)) (hd : decode M.2.1 pc = .ok (.ifCond .le off, 3)) (kt : a ≤ b → Runs X d M mc ms Q pct ls rest k j w) (kf : b < a → Runs X d M mc ms Q pc2 ls rest k j w) : Runs X d M mc ms Q pc ls (.int (lg_cmp (lN a) (lN b)) :: rest) k j w := r_if_le pc2 pct hp ht hd (fun h => kt ((lc_le ha hb).mp h)) (fun h => kf (Nat.not_le.mp (fun z => h ((lc_le ha hb).mpr z))))
theorem r_if_leL_t {X : Xn} {d : Nat} {M : XM} {mc ms : Nat} {Q : Option Value → va_W → Prop} {pc : Nat} {ls : List (Option Value)} {rest : List Value} {k j : Nat} {w : va_W} {off : Int} (a b : Nat) (ha : a < 2 ^ 63) (hb : b < 2 ^ 63) (pct : Nat) (ht : (pc : Int) + off = (pct : Int)) (hd : decode M.2.1 pc = .ok (.ifCond .le off, 3)) (hc : a ≤ b) (kt : Runs X d M mc ms Q pct ls rest k j w) : Runs X d M mc ms Q pc ls (.int (lg_cmp (lN a) (lN b)) :: rest) k j w := r_if_leL a b ha hb (pc + 3) pct rfl ht hd (fun _ => kt) (fun h => absurd hc (by first | omega | simpa using h))
theorem r_if_leL_f {X : Xn} {d : Nat} {M : XM} {mc ms : Nat} {Q : Option Value → va_W → Prop} {pc : Nat} {ls : List (Option Value)} {rest : List Value} {k j : Nat} {w : va_W} {off : Int} (a b : Nat) (ha : a < 2 ^ 63) (hb : b < 2 ^ 63) (pc2 : Nat) (hp : pc + 3 = pc2) (pct : Nat) (ht : (pc : Int) + off = (pct : Int)) (hd : decode M.2.1 pc = .ok (.ifCond .le off, 3)) (hc : b < a) (kf : Runs X d M mc ms Q pc2 ls rest k j w) : Runs X d M mc ms Q pc ls (.int (lg_cmp (lN a) (lN b)) :: rest) k j w := r_if_leL a b ha hb pc2 pct hp ht hd (fun h => absurd hc (by first | omega | simpa using h)) (fun _ => kf)
theorem r_ldcw {X : Xn} {d : Nat} {M : XM} {mc ms : Nat} {Q : Option Value → va_W → Prop} {pc : Nat} {ls : List (Option Value)} {rest : List Value} {k j : Nat} {w : va_W} {index : Nat} {v : Int32} (hc : Cond.constant M.1.cls index v ∈ TB) (pc2 : Nat) (hp : pc + 3 = pc2) (hd : decode M.2.1 pc = .ok (.ldc_w index, 3)) (kk : Runs X d M mc ms Q pc2 ls (.int v :: rest) k j w) : Runs X d M mc ms Q pc ls rest k j w := by
  subst hp
  exact fun p e s m args below meth c A H locs la C P L => lv_ldcw C.1 C.2.1 C.own (C.use hc) hd (kk p e s m args below meth c A H locs la C P L)
theorem Xall_C (w : va_W) : (List.range w.length).map (fun i => w[i]?) = w.map some := by
  refine List.ext_getElem? (fun i => ?_)
  rw [List.getElem?_map, List.getElem?_map]
  by_cases h : i < w.length
  · rw [List.getElem?_range h, List.getElem?_eq_getElem h]; simp [h]
  · rw [List.getElem?_eq_none (by rw [List.length_range]; omega), List.getElem?_eq_none (by omega)]; rfl
theorem Xnd_of : ∀ l : List Nat, l.Nodup → va_nd l = true
  | [], _ => rfl
  | a :: l, h => by
    rw [List.nodup_cons] at h
    simp only [va_nd, Bool.and_eq_true, decide_eq_true_eq]
    exact ⟨h.1, Xnd_of l h.2⟩
theorem Xall_nd (n : Nat) : va_nd (List.range n) = true := Xnd_of _ List.nodup_range
theorem Xput_at : ∀ (is : List Nat) (qs w : va_W), is.Nodup → qs.length = is.length → (∀ i ∈ is, i < w.length) → ∀ (j k : Nat) (q : Nat × va_E), is[j]? = some k → qs[j]? = some q → (Xput w is qs)[k]? = some q
  | [], _, _, _, _, _, j, k, q, h, _ => by simp at h
  | i :: is, [], _, _, hl, _, _, _, _, _, _ => by simp at hl
  | i :: is, q0 :: qs, w, hn, hl, hb, j, k, q, h1, h2 => by
    rw [List.nodup_cons] at hn
    rw [Xput]
    cases j with
    | zero =>
      simp only [List.getElem?_cons_zero, Option.some.injEq] at h1 h2
      subst h1; subst h2
      have key : ∀ (is : List Nat) (qs w : va_W), i ∉ is → (Xput w is qs)[i]? = w[i]? := by
        intro is
        induction is with
        | nil => intro qs w _; cases qs <;> rfl
        | cons a l ih =>
          intro qs w hni
          cases qs with
          | nil => rfl
          | cons b t =>
            rw [Xput, ih t _ (fun z => hni (List.mem_cons_of_mem _ z)), List.getElem?_set_ne (fun (z : a = i) => hni (by rw [z]; exact List.mem_cons_self))]
      rw [key is qs _ hn.1, List.getElem?_set_self (hb i List.mem_cons_self)]
    | succ j =>
      rw [List.getElem?_cons_succ] at h1 h2
      exact Xput_at is qs (w.set i q0) hn.2 (by simpa using hl) (fun x hx => by rw [List.length_set]; exact hb x (List.mem_cons_of_mem _ hx)) j k q h1 h2
theorem Xput_all (w w1 : va_W) (h : w1.length = w.length) : Xput w (List.range w.length) w1 = w1 := by
  refine List.ext_getElem? (fun i => ?_)
  by_cases hi : i < w.length
  · rw [Xput_at (List.range w.length) w1 w List.nodup_range (by rw [List.length_range]; exact h) (fun x hx => List.mem_range.mp hx) i i (w1[i]'(by omega)) (List.getElem?_range hi) (List.getElem?_eq_getElem (by omega))]
    exact (List.getElem?_eq_getElem (by omega)).symm
  · rw [List.getElem?_eq_none (by rw [Xput_len]; omega), List.getElem?_eq_none (by omega)]
theorem r_callV1 {X : Xn} {d : Nat} {M : XM} {mc ms : Nat} {Q : Option Value → va_W → Prop} {pc : Nat} {ls : List (Option Value)} {rest : List Value} {k j : Nat} {w : va_W} {M2 : XM} {ix np d2 mc2 ms2 : Nat} {As : List Value} {st st2 : List Value} {w2 : va_W} {wc w0 : va_W} {v0 : Option Value} {b : Nat} {ci : Nat} {fs : List Value} {T0 : u_T} {N0 : Nat} (hlk : LVt M2 np) (hln : Cond.methodLink M.1.cls ix M2.1 ∈ TB) (hM : Does X d2 M2 (.ref b :: As) wc mc2 ms2 (fun v w' => v = v0 ∧ w' = w0)) (hd2 : d2 + 1 ≤ d) (hnp : As.length = np) (hst : As.reverse ++ .ref b :: rest = st) (hcat : (rest.map fun v => v.category).sum ≤ 8) (hk : k + mc2 ≤ mc) (hj : j + ms2 ≤ ms) (is : List Nat) (hC : is.map (fun i => w[i]?) = wc.map some) (hnd : va_nd is = true) (q0 : Nat) (hci : CLS[ci]? = some (M2.1.cls, T0, N0)) (hrc : wc[q0]? = some (b, .inr (ci, fs))) (hf : w0.map Prod.fst = wc.map Prod.fst) (hs2 : v0.toList ++ rest = st2) (hw2 : Xput w is w0 = w2) (pc2 : Nat) (hp : pc + 3 = pc2) (hd : decode M.2.1 pc = .ok (.invokevirtual ix, 3)) (kk : Runs X d M mc ms Q pc2 ls st2 (k + mc2) (j + ms2) w2) : Runs X d M mc ms Q pc ls st k j w := by
  subst hs2; subst hw2
  exact r_callV hlk hln hM hd2 hnp hst hcat hk hj is hC hnd hci hrc pc2 hp hd (fun v w' hq => ⟨w', [], by simp, by rw [hq.2]; exact hf, by rw [hq.1, hq.2, List.append_nil]; exact kk⟩)
theorem r_callVA1 {X : Xn} {d : Nat} {M : XM} {mc ms : Nat} {Q : Option Value → va_W → Prop} {pc : Nat} {ls : List (Option Value)} {rest : List Value} {k j : Nat} {w : va_W} {M2 : XM} {ix np d2 mc2 ms2 : Nat} {As : List Value} {st st2 : List Value} {w2 : va_W} {v0 : Option Value} {b : Nat} {ci : Nat} {fs : List Value} {T0 : u_T} {N0 : Nat} (hlk : LVt M2 np) (hln : Cond.methodLink M.1.cls ix M2.1 ∈ TB) (hM : Does X d2 M2 (.ref b :: As) w mc2 ms2 (fun v w' => v = v0 ∧ w' = w2)) (hd2 : d2 + 1 ≤ d) (hnp : As.length = np) (hst : As.reverse ++ .ref b :: rest = st) (hcat : (rest.map fun v => v.category).sum ≤ 8) (hk : k + mc2 ≤ mc) (hj : j + ms2 ≤ ms) (q0 : Nat) (hci : CLS[ci]? = some (M2.1.cls, T0, N0)) (hrc : w[q0]? = some (b, .inr (ci, fs))) (hf : w2.map Prod.fst = w.map Prod.fst) (hs2 : v0.toList ++ rest = st2) (pc2 : Nat) (hp : pc + 3 = pc2) (hd : decode M.2.1 pc = .ok (.invokevirtual ix, 3)) (kk : Runs X d M mc ms Q pc2 ls st2 (k + mc2) (j + ms2) w2) : Runs X d M mc ms Q pc ls st k j w := by
  subst hs2
  have hl : w2.length = w.length := by have := congrArg List.length hf; simpa using this
  exact r_callV hlk hln hM hd2 hnp hst hcat hk hj (List.range w.length) (Xall_C w) (Xall_nd _) hci hrc pc2 hp hd (fun v w' hq => ⟨w', [], by simp, by rw [hq.2]; exact hf, by rw [hq.1, hq.2, List.append_nil, Xput_all w w2 hl]; exact kk⟩)
theorem r_callVAQ {X : Xn} {d : Nat} {M : XM} {mc ms : Nat} {Q : Option Value → va_W → Prop} {pc : Nat} {ls : List (Option Value)} {rest : List Value} {k j : Nat} {w : va_W} {M2 : XM} {ix np d2 mc2 ms2 : Nat} {As : List Value} {st st2 : List Value} {w2 : va_W} {Q2 : Option Value → va_W → Prop} {b : Nat} {ci : Nat} {fs : List Value} {T0 : u_T} {N0 : Nat} (hlk : LVt M2 np) (hln : Cond.methodLink M.1.cls ix M2.1 ∈ TB) (hM : Does X d2 M2 (.ref b :: As) w mc2 ms2 Q2) (hd2 : d2 + 1 ≤ d) (hnp : As.length = np) (hst : As.reverse ++ .ref b :: rest = st) (hcat : (rest.map fun v => v.category).sum ≤ 8) (hk : k + mc2 ≤ mc) (hj : j + ms2 ≤ ms) (q0 : Nat) (hci : CLS[ci]? = some (M2.1.cls, T0, N0)) (hrc : w[q0]? = some (b, .inr (ci, fs))) (pc2 : Nat) (hp : pc + 3 = pc2) (hd : decode M.2.1 pc = .ok (.invokevirtual ix, 3)) (kk : ∀ v w', Q2 v w' → w'.map Prod.fst = w.map Prod.fst ∧ Runs X d M mc ms Q pc2 ls (v.toList ++ rest) (k + mc2) (j + ms2) w') : Runs X d M mc ms Q pc ls st k j w :=
  r_callV hlk hln hM hd2 hnp hst hcat hk hj (List.range w.length) (Xall_C w) (Xall_nd _) hci hrc pc2 hp hd (fun v w' hq => ⟨w', [], by simp, (kk v w' hq).1, by
    have hl : w'.length = w.length := by have := congrArg List.length (kk v w' hq).1; simpa using this
    rw [List.append_nil, Xput_all w w' hl]; exact (kk v w' hq).2⟩)
theorem r_callVQ {X : Xn} {d : Nat} {M : XM} {mc ms : Nat} {Q : Option Value → va_W → Prop} {pc : Nat} {ls : List (Option Value)} {rest : List Value} {k j : Nat} {w : va_W} {M2 : XM} {ix np d2 mc2 ms2 : Nat} {As : List Value} {st st2 : List Value} {w2 : va_W} {wc : va_W} {Q2 : Option Value → va_W → Prop} {b : Nat} {ci : Nat} {fs : List Value} {T0 : u_T} {N0 : Nat} (hlk : LVt M2 np) (hln : Cond.methodLink M.1.cls ix M2.1 ∈ TB) (hM : Does X d2 M2 (.ref b :: As) wc mc2 ms2 Q2) (hd2 : d2 + 1 ≤ d) (hnp : As.length = np) (hst : As.reverse ++ .ref b :: rest = st) (hcat : (rest.map fun v => v.category).sum ≤ 8) (hk : k + mc2 ≤ mc) (hj : j + ms2 ≤ ms) (is : List Nat) (hC : is.map (fun i => w[i]?) = wc.map some) (hnd : va_nd is = true) (q0 : Nat) (hci : CLS[ci]? = some (M2.1.cls, T0, N0)) (hrc : wc[q0]? = some (b, .inr (ci, fs))) (pc2 : Nat) (hp : pc + 3 = pc2) (hd : decode M.2.1 pc = .ok (.invokevirtual ix, 3)) (kk : ∀ v w', Q2 v w' → w'.map Prod.fst = wc.map Prod.fst ∧ Runs X d M mc ms Q pc2 ls (v.toList ++ rest) (k + mc2) (j + ms2) (Xput w is w')) : Runs X d M mc ms Q pc ls st k j w :=
  r_callV hlk hln hM hd2 hnp hst hcat hk hj is hC hnd hci hrc pc2 hp hd (fun v w' hq => ⟨w', [], by simp, (kk v w' hq).1, by rw [List.append_nil]; exact (kk v w' hq).2⟩)
theorem r_callVn1 {X : Xn} {d : Nat} {M : XM} {mc ms : Nat} {Q : Option Value → va_W → Prop} {pc : Nat} {ls : List (Option Value)} {rest : List Value} {k j : Nat} {w : va_W} {M2 : XM} {ix np d2 mc2 ms2 : Nat} {As : List Value} {st st2 : List Value} {w2 : va_W} {wc w0 : va_W} {v0 : Option Value} {b : Nat} {ci : Nat} {fs : List Value} {T0 : u_T} {N0 : Nat} (hlk : LVt M2 np) (hln : Cond.methodLinkNest M.1.cls ix M2.1 "HandshakeBinds" ∈ NW) (hM : Does X d2 M2 (.ref b :: As) wc mc2 ms2 (fun v w' => v = v0 ∧ w' = w0)) (hd2 : d2 + 1 ≤ d) (hnp : As.length = np) (hst : As.reverse ++ .ref b :: rest = st) (hcat : (rest.map fun v => v.category).sum ≤ 8) (hk : k + mc2 ≤ mc) (hj : j + ms2 ≤ ms) (is : List Nat) (hC : is.map (fun i => w[i]?) = wc.map some) (hnd : va_nd is = true) (q0 : Nat) (hci : CLS[ci]? = some (M2.1.cls, T0, N0)) (hrc : wc[q0]? = some (b, .inr (ci, fs))) (hf : w0.map Prod.fst = wc.map Prod.fst) (hs2 : v0.toList ++ rest = st2) (hw2 : Xput w is w0 = w2) (pc2 : Nat) (hp : pc + 3 = pc2) (hd : decode M.2.1 pc = .ok (.invokevirtual ix, 3)) (kk : Runs X d M mc ms Q pc2 ls st2 (k + mc2) (j + ms2) w2) : Runs X d M mc ms Q pc ls st k j w := by
  subst hs2; subst hw2
  exact r_callVn hlk hln hM hd2 hnp hst hcat hk hj is hC hnd hci hrc pc2 hp hd (fun v w' hq => ⟨w', [], by simp, by rw [hq.2]; exact hf, by rw [hq.1, hq.2, List.append_nil]; exact kk⟩)
theorem r_callVnA1 {X : Xn} {d : Nat} {M : XM} {mc ms : Nat} {Q : Option Value → va_W → Prop} {pc : Nat} {ls : List (Option Value)} {rest : List Value} {k j : Nat} {w : va_W} {M2 : XM} {ix np d2 mc2 ms2 : Nat} {As : List Value} {st st2 : List Value} {w2 : va_W} {v0 : Option Value} {b : Nat} {ci : Nat} {fs : List Value} {T0 : u_T} {N0 : Nat} (hlk : LVt M2 np) (hln : Cond.methodLinkNest M.1.cls ix M2.1 "HandshakeBinds" ∈ NW) (hM : Does X d2 M2 (.ref b :: As) w mc2 ms2 (fun v w' => v = v0 ∧ w' = w2)) (hd2 : d2 + 1 ≤ d) (hnp : As.length = np) (hst : As.reverse ++ .ref b :: rest = st) (hcat : (rest.map fun v => v.category).sum ≤ 8) (hk : k + mc2 ≤ mc) (hj : j + ms2 ≤ ms) (q0 : Nat) (hci : CLS[ci]? = some (M2.1.cls, T0, N0)) (hrc : w[q0]? = some (b, .inr (ci, fs))) (hf : w2.map Prod.fst = w.map Prod.fst) (hs2 : v0.toList ++ rest = st2) (pc2 : Nat) (hp : pc + 3 = pc2) (hd : decode M.2.1 pc = .ok (.invokevirtual ix, 3)) (kk : Runs X d M mc ms Q pc2 ls st2 (k + mc2) (j + ms2) w2) : Runs X d M mc ms Q pc ls st k j w := by
  subst hs2
  have hl : w2.length = w.length := by have := congrArg List.length hf; simpa using this
  exact r_callVn hlk hln hM hd2 hnp hst hcat hk hj (List.range w.length) (Xall_C w) (Xall_nd _) hci hrc pc2 hp hd (fun v w' hq => ⟨w', [], by simp, by rw [hq.2]; exact hf, by rw [hq.1, hq.2, List.append_nil, Xput_all w w2 hl]; exact kk⟩)
theorem r_callVnAQ {X : Xn} {d : Nat} {M : XM} {mc ms : Nat} {Q : Option Value → va_W → Prop} {pc : Nat} {ls : List (Option Value)} {rest : List Value} {k j : Nat} {w : va_W} {M2 : XM} {ix np d2 mc2 ms2 : Nat} {As : List Value} {st st2 : List Value} {w2 : va_W} {Q2 : Option Value → va_W → Prop} {b : Nat} {ci : Nat} {fs : List Value} {T0 : u_T} {N0 : Nat} (hlk : LVt M2 np) (hln : Cond.methodLinkNest M.1.cls ix M2.1 "HandshakeBinds" ∈ NW) (hM : Does X d2 M2 (.ref b :: As) w mc2 ms2 Q2) (hd2 : d2 + 1 ≤ d) (hnp : As.length = np) (hst : As.reverse ++ .ref b :: rest = st) (hcat : (rest.map fun v => v.category).sum ≤ 8) (hk : k + mc2 ≤ mc) (hj : j + ms2 ≤ ms) (q0 : Nat) (hci : CLS[ci]? = some (M2.1.cls, T0, N0)) (hrc : w[q0]? = some (b, .inr (ci, fs))) (pc2 : Nat) (hp : pc + 3 = pc2) (hd : decode M.2.1 pc = .ok (.invokevirtual ix, 3)) (kk : ∀ v w', Q2 v w' → w'.map Prod.fst = w.map Prod.fst ∧ Runs X d M mc ms Q pc2 ls (v.toList ++ rest) (k + mc2) (j + ms2) w') : Runs X d M mc ms Q pc ls st k j w :=
  r_callVn hlk hln hM hd2 hnp hst hcat hk hj (List.range w.length) (Xall_C w) (Xall_nd _) hci hrc pc2 hp hd (fun v w' hq => ⟨w', [], by simp, (kk v w' hq).1, by
    have hl : w'.length = w.length := by have := congrArg List.length (kk v w' hq).1; simpa using this
    rw [List.append_nil, Xput_all w w' hl]; exact (kk v w' hq).2⟩)
theorem r_callVnQ {X : Xn} {d : Nat} {M : XM} {mc ms : Nat} {Q : Option Value → va_W → Prop} {pc : Nat} {ls : List (Option Value)} {rest : List Value} {k j : Nat} {w : va_W} {M2 : XM} {ix np d2 mc2 ms2 : Nat} {As : List Value} {st st2 : List Value} {w2 : va_W} {wc : va_W} {Q2 : Option Value → va_W → Prop} {b : Nat} {ci : Nat} {fs : List Value} {T0 : u_T} {N0 : Nat} (hlk : LVt M2 np) (hln : Cond.methodLinkNest M.1.cls ix M2.1 "HandshakeBinds" ∈ NW) (hM : Does X d2 M2 (.ref b :: As) wc mc2 ms2 Q2) (hd2 : d2 + 1 ≤ d) (hnp : As.length = np) (hst : As.reverse ++ .ref b :: rest = st) (hcat : (rest.map fun v => v.category).sum ≤ 8) (hk : k + mc2 ≤ mc) (hj : j + ms2 ≤ ms) (is : List Nat) (hC : is.map (fun i => w[i]?) = wc.map some) (hnd : va_nd is = true) (q0 : Nat) (hci : CLS[ci]? = some (M2.1.cls, T0, N0)) (hrc : wc[q0]? = some (b, .inr (ci, fs))) (pc2 : Nat) (hp : pc + 3 = pc2) (hd : decode M.2.1 pc = .ok (.invokevirtual ix, 3)) (kk : ∀ v w', Q2 v w' → w'.map Prod.fst = wc.map Prod.fst ∧ Runs X d M mc ms Q pc2 ls (v.toList ++ rest) (k + mc2) (j + ms2) (Xput w is w')) : Runs X d M mc ms Q pc ls st k j w :=
  r_callVn hlk hln hM hd2 hnp hst hcat hk hj is hC hnd hci hrc pc2 hp hd (fun v w' hq => ⟨w', [], by simp, (kk v w' hq).1, by rw [List.append_nil]; exact (kk v w' hq).2⟩)
theorem r_callS1 {X : Xn} {d : Nat} {M : XM} {mc ms : Nat} {Q : Option Value → va_W → Prop} {pc : Nat} {ls : List (Option Value)} {rest : List Value} {k j : Nat} {w : va_W} {M2 : XM} {ix np d2 mc2 ms2 : Nat} {As : List Value} {st st2 : List Value} {w2 : va_W} {wc w0 : va_W} {v0 : Option Value}   (hlk : LSt M2 np) (hln : Cond.methodLink M.1.cls ix M2.1 ∈ TB) (hM : Does X d2 M2 As wc mc2 ms2 (fun v w' => v = v0 ∧ w' = w0)) (hd2 : d2 + 1 ≤ d) (hnp : As.length = np) (hst : As.reverse ++ rest = st) (hcat : (rest.map fun v => v.category).sum ≤ 8) (hk : k + mc2 ≤ mc) (hj : j + ms2 ≤ ms) (is : List Nat) (hC : is.map (fun i => w[i]?) = wc.map some) (hnd : va_nd is = true)  (hf : w0.map Prod.fst = wc.map Prod.fst) (hs2 : v0.toList ++ rest = st2) (hw2 : Xput w is w0 = w2) (pc2 : Nat) (hp : pc + 3 = pc2) (hd : decode M.2.1 pc = .ok (.invokestatic ix, 3)) (kk : Runs X d M mc ms Q pc2 ls st2 (k + mc2) (j + ms2) w2) : Runs X d M mc ms Q pc ls st k j w := by
  subst hs2; subst hw2
  exact r_callS hlk hln hM hd2 hnp hst hcat hk hj is hC hnd  pc2 hp hd (fun v w' hq => ⟨w', [], by simp, by rw [hq.2]; exact hf, by rw [hq.1, hq.2, List.append_nil]; exact kk⟩)
theorem r_callSA1 {X : Xn} {d : Nat} {M : XM} {mc ms : Nat} {Q : Option Value → va_W → Prop} {pc : Nat} {ls : List (Option Value)} {rest : List Value} {k j : Nat} {w : va_W} {M2 : XM} {ix np d2 mc2 ms2 : Nat} {As : List Value} {st st2 : List Value} {w2 : va_W} {v0 : Option Value}   (hlk : LSt M2 np) (hln : Cond.methodLink M.1.cls ix M2.1 ∈ TB) (hM : Does X d2 M2 As w mc2 ms2 (fun v w' => v = v0 ∧ w' = w2)) (hd2 : d2 + 1 ≤ d) (hnp : As.length = np) (hst : As.reverse ++ rest = st) (hcat : (rest.map fun v => v.category).sum ≤ 8) (hk : k + mc2 ≤ mc) (hj : j + ms2 ≤ ms)  (hf : w2.map Prod.fst = w.map Prod.fst) (hs2 : v0.toList ++ rest = st2) (pc2 : Nat) (hp : pc + 3 = pc2) (hd : decode M.2.1 pc = .ok (.invokestatic ix, 3)) (kk : Runs X d M mc ms Q pc2 ls st2 (k + mc2) (j + ms2) w2) : Runs X d M mc ms Q pc ls st k j w := by
  subst hs2
  have hl : w2.length = w.length := by have := congrArg List.length hf; simpa using this
  exact r_callS hlk hln hM hd2 hnp hst hcat hk hj (List.range w.length) (Xall_C w) (Xall_nd _)  pc2 hp hd (fun v w' hq => ⟨w', [], by simp, by rw [hq.2]; exact hf, by rw [hq.1, hq.2, List.append_nil, Xput_all w w2 hl]; exact kk⟩)
theorem r_callSAQ {X : Xn} {d : Nat} {M : XM} {mc ms : Nat} {Q : Option Value → va_W → Prop} {pc : Nat} {ls : List (Option Value)} {rest : List Value} {k j : Nat} {w : va_W} {M2 : XM} {ix np d2 mc2 ms2 : Nat} {As : List Value} {st st2 : List Value} {w2 : va_W} {Q2 : Option Value → va_W → Prop}   (hlk : LSt M2 np) (hln : Cond.methodLink M.1.cls ix M2.1 ∈ TB) (hM : Does X d2 M2 As w mc2 ms2 Q2) (hd2 : d2 + 1 ≤ d) (hnp : As.length = np) (hst : As.reverse ++ rest = st) (hcat : (rest.map fun v => v.category).sum ≤ 8) (hk : k + mc2 ≤ mc) (hj : j + ms2 ≤ ms)  (pc2 : Nat) (hp : pc + 3 = pc2) (hd : decode M.2.1 pc = .ok (.invokestatic ix, 3)) (kk : ∀ v w', Q2 v w' → w'.map Prod.fst = w.map Prod.fst ∧ Runs X d M mc ms Q pc2 ls (v.toList ++ rest) (k + mc2) (j + ms2) w') : Runs X d M mc ms Q pc ls st k j w :=
  r_callS hlk hln hM hd2 hnp hst hcat hk hj (List.range w.length) (Xall_C w) (Xall_nd _)  pc2 hp hd (fun v w' hq => ⟨w', [], by simp, (kk v w' hq).1, by
    have hl : w'.length = w.length := by have := congrArg List.length (kk v w' hq).1; simpa using this
    rw [List.append_nil, Xput_all w w' hl]; exact (kk v w' hq).2⟩)
theorem r_callSQ {X : Xn} {d : Nat} {M : XM} {mc ms : Nat} {Q : Option Value → va_W → Prop} {pc : Nat} {ls : List (Option Value)} {rest : List Value} {k j : Nat} {w : va_W} {M2 : XM} {ix np d2 mc2 ms2 : Nat} {As : List Value} {st st2 : List Value} {w2 : va_W} {wc : va_W} {Q2 : Option Value → va_W → Prop}   (hlk : LSt M2 np) (hln : Cond.methodLink M.1.cls ix M2.1 ∈ TB) (hM : Does X d2 M2 As wc mc2 ms2 Q2) (hd2 : d2 + 1 ≤ d) (hnp : As.length = np) (hst : As.reverse ++ rest = st) (hcat : (rest.map fun v => v.category).sum ≤ 8) (hk : k + mc2 ≤ mc) (hj : j + ms2 ≤ ms) (is : List Nat) (hC : is.map (fun i => w[i]?) = wc.map some) (hnd : va_nd is = true)  (pc2 : Nat) (hp : pc + 3 = pc2) (hd : decode M.2.1 pc = .ok (.invokestatic ix, 3)) (kk : ∀ v w', Q2 v w' → w'.map Prod.fst = wc.map Prod.fst ∧ Runs X d M mc ms Q pc2 ls (v.toList ++ rest) (k + mc2) (j + ms2) (Xput w is w')) : Runs X d M mc ms Q pc ls st k j w :=
  r_callS hlk hln hM hd2 hnp hst hcat hk hj is hC hnd  pc2 hp hd (fun v w' hq => ⟨w', [], by simp, (kk v w' hq).1, by rw [List.append_nil]; exact (kk v w' hq).2⟩)
theorem r_callSn1 {X : Xn} {d : Nat} {M : XM} {mc ms : Nat} {Q : Option Value → va_W → Prop} {pc : Nat} {ls : List (Option Value)} {rest : List Value} {k j : Nat} {w : va_W} {M2 : XM} {ix np d2 mc2 ms2 : Nat} {As : List Value} {st st2 : List Value} {w2 : va_W} {wc w0 : va_W} {v0 : Option Value}   (hlk : LSt M2 np) (hln : Cond.methodLinkNest M.1.cls ix M2.1 "HandshakeBinds" ∈ NW) (hM : Does X d2 M2 As wc mc2 ms2 (fun v w' => v = v0 ∧ w' = w0)) (hd2 : d2 + 1 ≤ d) (hnp : As.length = np) (hst : As.reverse ++ rest = st) (hcat : (rest.map fun v => v.category).sum ≤ 8) (hk : k + mc2 ≤ mc) (hj : j + ms2 ≤ ms) (is : List Nat) (hC : is.map (fun i => w[i]?) = wc.map some) (hnd : va_nd is = true)  (hf : w0.map Prod.fst = wc.map Prod.fst) (hs2 : v0.toList ++ rest = st2) (hw2 : Xput w is w0 = w2) (pc2 : Nat) (hp : pc + 3 = pc2) (hd : decode M.2.1 pc = .ok (.invokestatic ix, 3)) (kk : Runs X d M mc ms Q pc2 ls st2 (k + mc2) (j + ms2) w2) : Runs X d M mc ms Q pc ls st k j w := by
  subst hs2; subst hw2
  exact r_callSn hlk hln hM hd2 hnp hst hcat hk hj is hC hnd  pc2 hp hd (fun v w' hq => ⟨w', [], by simp, by rw [hq.2]; exact hf, by rw [hq.1, hq.2, List.append_nil]; exact kk⟩)
theorem r_callSnA1 {X : Xn} {d : Nat} {M : XM} {mc ms : Nat} {Q : Option Value → va_W → Prop} {pc : Nat} {ls : List (Option Value)} {rest : List Value} {k j : Nat} {w : va_W} {M2 : XM} {ix np d2 mc2 ms2 : Nat} {As : List Value} {st st2 : List Value} {w2 : va_W} {v0 : Option Value}   (hlk : LSt M2 np) (hln : Cond.methodLinkNest M.1.cls ix M2.1 "HandshakeBinds" ∈ NW) (hM : Does X d2 M2 As w mc2 ms2 (fun v w' => v = v0 ∧ w' = w2)) (hd2 : d2 + 1 ≤ d) (hnp : As.length = np) (hst : As.reverse ++ rest = st) (hcat : (rest.map fun v => v.category).sum ≤ 8) (hk : k + mc2 ≤ mc) (hj : j + ms2 ≤ ms)  (hf : w2.map Prod.fst = w.map Prod.fst) (hs2 : v0.toList ++ rest = st2) (pc2 : Nat) (hp : pc + 3 = pc2) (hd : decode M.2.1 pc = .ok (.invokestatic ix, 3)) (kk : Runs X d M mc ms Q pc2 ls st2 (k + mc2) (j + ms2) w2) : Runs X d M mc ms Q pc ls st k j w := by
  subst hs2
  have hl : w2.length = w.length := by have := congrArg List.length hf; simpa using this
  exact r_callSn hlk hln hM hd2 hnp hst hcat hk hj (List.range w.length) (Xall_C w) (Xall_nd _)  pc2 hp hd (fun v w' hq => ⟨w', [], by simp, by rw [hq.2]; exact hf, by rw [hq.1, hq.2, List.append_nil, Xput_all w w2 hl]; exact kk⟩)
theorem r_callSnAQ {X : Xn} {d : Nat} {M : XM} {mc ms : Nat} {Q : Option Value → va_W → Prop} {pc : Nat} {ls : List (Option Value)} {rest : List Value} {k j : Nat} {w : va_W} {M2 : XM} {ix np d2 mc2 ms2 : Nat} {As : List Value} {st st2 : List Value} {w2 : va_W} {Q2 : Option Value → va_W → Prop}   (hlk : LSt M2 np) (hln : Cond.methodLinkNest M.1.cls ix M2.1 "HandshakeBinds" ∈ NW) (hM : Does X d2 M2 As w mc2 ms2 Q2) (hd2 : d2 + 1 ≤ d) (hnp : As.length = np) (hst : As.reverse ++ rest = st) (hcat : (rest.map fun v => v.category).sum ≤ 8) (hk : k + mc2 ≤ mc) (hj : j + ms2 ≤ ms)  (pc2 : Nat) (hp : pc + 3 = pc2) (hd : decode M.2.1 pc = .ok (.invokestatic ix, 3)) (kk : ∀ v w', Q2 v w' → w'.map Prod.fst = w.map Prod.fst ∧ Runs X d M mc ms Q pc2 ls (v.toList ++ rest) (k + mc2) (j + ms2) w') : Runs X d M mc ms Q pc ls st k j w :=
  r_callSn hlk hln hM hd2 hnp hst hcat hk hj (List.range w.length) (Xall_C w) (Xall_nd _)  pc2 hp hd (fun v w' hq => ⟨w', [], by simp, (kk v w' hq).1, by
    have hl : w'.length = w.length := by have := congrArg List.length (kk v w' hq).1; simpa using this
    rw [List.append_nil, Xput_all w w' hl]; exact (kk v w' hq).2⟩)
theorem r_callSnQ {X : Xn} {d : Nat} {M : XM} {mc ms : Nat} {Q : Option Value → va_W → Prop} {pc : Nat} {ls : List (Option Value)} {rest : List Value} {k j : Nat} {w : va_W} {M2 : XM} {ix np d2 mc2 ms2 : Nat} {As : List Value} {st st2 : List Value} {w2 : va_W} {wc : va_W} {Q2 : Option Value → va_W → Prop}   (hlk : LSt M2 np) (hln : Cond.methodLinkNest M.1.cls ix M2.1 "HandshakeBinds" ∈ NW) (hM : Does X d2 M2 As wc mc2 ms2 Q2) (hd2 : d2 + 1 ≤ d) (hnp : As.length = np) (hst : As.reverse ++ rest = st) (hcat : (rest.map fun v => v.category).sum ≤ 8) (hk : k + mc2 ≤ mc) (hj : j + ms2 ≤ ms) (is : List Nat) (hC : is.map (fun i => w[i]?) = wc.map some) (hnd : va_nd is = true)  (pc2 : Nat) (hp : pc + 3 = pc2) (hd : decode M.2.1 pc = .ok (.invokestatic ix, 3)) (kk : ∀ v w', Q2 v w' → w'.map Prod.fst = wc.map Prod.fst ∧ Runs X d M mc ms Q pc2 ls (v.toList ++ rest) (k + mc2) (j + ms2) (Xput w is w')) : Runs X d M mc ms Q pc ls st k j w :=
  r_callSn hlk hln hM hd2 hnp hst hcat hk hj is hC hnd  pc2 hp hd (fun v w' hq => ⟨w', [], by simp, (kk v w' hq).1, by rw [List.append_nil]; exact (kk v w' hq).2⟩)
theorem r_callI1 {X : Xn} {d : Nat} {M : XM} {mc ms : Nat} {Q : Option Value → va_W → Prop} {pc : Nat} {ls : List (Option Value)} {rest : List Value} {k j : Nat} {w : va_W} {M2 : XM} {ix np d2 mc2 ms2 : Nat} {As : List Value} {st st2 : List Value} {w2 : va_W} {wc w0 : va_W} {v0 : Option Value} {b : Nat}  (hlk : LIn M2 np) (hln : Cond.methodLink M.1.cls ix M2.1 ∈ TB) (hM : Does X d2 M2 (.ref b :: As) wc mc2 ms2 (fun v w' => v = v0 ∧ w' = w0)) (hd2 : d2 + 1 ≤ d) (hnp : As.length = np) (hst : As.reverse ++ .ref b :: rest = st) (hcat : (rest.map fun v => v.category).sum ≤ 8) (hk : k + mc2 ≤ mc) (hj : j + ms2 ≤ ms) (is : List Nat) (hC : is.map (fun i => w[i]?) = wc.map some) (hnd : va_nd is = true)  (hf : w0.map Prod.fst = wc.map Prod.fst) (hs2 : v0.toList ++ rest = st2) (hw2 : Xput w is w0 = w2) (pc2 : Nat) (hp : pc + 3 = pc2) (hd : decode M.2.1 pc = .ok (.invokespecial ix, 3)) (kk : Runs X d M mc ms Q pc2 ls st2 (k + mc2) (j + ms2) w2) : Runs X d M mc ms Q pc ls st k j w := by
  subst hs2; subst hw2
  exact r_callI hlk hln hM hd2 hnp hst hcat hk hj is hC hnd  pc2 hp hd (fun v w' hq => ⟨w', [], by simp, by rw [hq.2]; exact hf, by rw [hq.1, hq.2, List.append_nil]; exact kk⟩)
theorem r_callIA1 {X : Xn} {d : Nat} {M : XM} {mc ms : Nat} {Q : Option Value → va_W → Prop} {pc : Nat} {ls : List (Option Value)} {rest : List Value} {k j : Nat} {w : va_W} {M2 : XM} {ix np d2 mc2 ms2 : Nat} {As : List Value} {st st2 : List Value} {w2 : va_W} {v0 : Option Value} {b : Nat}  (hlk : LIn M2 np) (hln : Cond.methodLink M.1.cls ix M2.1 ∈ TB) (hM : Does X d2 M2 (.ref b :: As) w mc2 ms2 (fun v w' => v = v0 ∧ w' = w2)) (hd2 : d2 + 1 ≤ d) (hnp : As.length = np) (hst : As.reverse ++ .ref b :: rest = st) (hcat : (rest.map fun v => v.category).sum ≤ 8) (hk : k + mc2 ≤ mc) (hj : j + ms2 ≤ ms)  (hf : w2.map Prod.fst = w.map Prod.fst) (hs2 : v0.toList ++ rest = st2) (pc2 : Nat) (hp : pc + 3 = pc2) (hd : decode M.2.1 pc = .ok (.invokespecial ix, 3)) (kk : Runs X d M mc ms Q pc2 ls st2 (k + mc2) (j + ms2) w2) : Runs X d M mc ms Q pc ls st k j w := by
  subst hs2
  have hl : w2.length = w.length := by have := congrArg List.length hf; simpa using this
  exact r_callI hlk hln hM hd2 hnp hst hcat hk hj (List.range w.length) (Xall_C w) (Xall_nd _)  pc2 hp hd (fun v w' hq => ⟨w', [], by simp, by rw [hq.2]; exact hf, by rw [hq.1, hq.2, List.append_nil, Xput_all w w2 hl]; exact kk⟩)
theorem r_callIAQ {X : Xn} {d : Nat} {M : XM} {mc ms : Nat} {Q : Option Value → va_W → Prop} {pc : Nat} {ls : List (Option Value)} {rest : List Value} {k j : Nat} {w : va_W} {M2 : XM} {ix np d2 mc2 ms2 : Nat} {As : List Value} {st st2 : List Value} {w2 : va_W} {Q2 : Option Value → va_W → Prop} {b : Nat}  (hlk : LIn M2 np) (hln : Cond.methodLink M.1.cls ix M2.1 ∈ TB) (hM : Does X d2 M2 (.ref b :: As) w mc2 ms2 Q2) (hd2 : d2 + 1 ≤ d) (hnp : As.length = np) (hst : As.reverse ++ .ref b :: rest = st) (hcat : (rest.map fun v => v.category).sum ≤ 8) (hk : k + mc2 ≤ mc) (hj : j + ms2 ≤ ms)  (pc2 : Nat) (hp : pc + 3 = pc2) (hd : decode M.2.1 pc = .ok (.invokespecial ix, 3)) (kk : ∀ v w', Q2 v w' → w'.map Prod.fst = w.map Prod.fst ∧ Runs X d M mc ms Q pc2 ls (v.toList ++ rest) (k + mc2) (j + ms2) w') : Runs X d M mc ms Q pc ls st k j w :=
  r_callI hlk hln hM hd2 hnp hst hcat hk hj (List.range w.length) (Xall_C w) (Xall_nd _)  pc2 hp hd (fun v w' hq => ⟨w', [], by simp, (kk v w' hq).1, by
    have hl : w'.length = w.length := by have := congrArg List.length (kk v w' hq).1; simpa using this
    rw [List.append_nil, Xput_all w w' hl]; exact (kk v w' hq).2⟩)
theorem r_callIQ {X : Xn} {d : Nat} {M : XM} {mc ms : Nat} {Q : Option Value → va_W → Prop} {pc : Nat} {ls : List (Option Value)} {rest : List Value} {k j : Nat} {w : va_W} {M2 : XM} {ix np d2 mc2 ms2 : Nat} {As : List Value} {st st2 : List Value} {w2 : va_W} {wc : va_W} {Q2 : Option Value → va_W → Prop} {b : Nat}  (hlk : LIn M2 np) (hln : Cond.methodLink M.1.cls ix M2.1 ∈ TB) (hM : Does X d2 M2 (.ref b :: As) wc mc2 ms2 Q2) (hd2 : d2 + 1 ≤ d) (hnp : As.length = np) (hst : As.reverse ++ .ref b :: rest = st) (hcat : (rest.map fun v => v.category).sum ≤ 8) (hk : k + mc2 ≤ mc) (hj : j + ms2 ≤ ms) (is : List Nat) (hC : is.map (fun i => w[i]?) = wc.map some) (hnd : va_nd is = true)  (pc2 : Nat) (hp : pc + 3 = pc2) (hd : decode M.2.1 pc = .ok (.invokespecial ix, 3)) (kk : ∀ v w', Q2 v w' → w'.map Prod.fst = wc.map Prod.fst ∧ Runs X d M mc ms Q pc2 ls (v.toList ++ rest) (k + mc2) (j + ms2) (Xput w is w')) : Runs X d M mc ms Q pc ls st k j w :=
  r_callI hlk hln hM hd2 hnp hst hcat hk hj is hC hnd  pc2 hp hd (fun v w' hq => ⟨w', [], by simp, (kk v w' hq).1, by rw [List.append_nil]; exact (kk v w' hq).2⟩)
theorem r_callIn1 {X : Xn} {d : Nat} {M : XM} {mc ms : Nat} {Q : Option Value → va_W → Prop} {pc : Nat} {ls : List (Option Value)} {rest : List Value} {k j : Nat} {w : va_W} {M2 : XM} {ix np d2 mc2 ms2 : Nat} {As : List Value} {st st2 : List Value} {w2 : va_W} {wc w0 : va_W} {v0 : Option Value} {b : Nat}  (hlk : LIn M2 np) (hln : Cond.methodLinkNest M.1.cls ix M2.1 "HandshakeBinds" ∈ NW) (hM : Does X d2 M2 (.ref b :: As) wc mc2 ms2 (fun v w' => v = v0 ∧ w' = w0)) (hd2 : d2 + 1 ≤ d) (hnp : As.length = np) (hst : As.reverse ++ .ref b :: rest = st) (hcat : (rest.map fun v => v.category).sum ≤ 8) (hk : k + mc2 ≤ mc) (hj : j + ms2 ≤ ms) (is : List Nat) (hC : is.map (fun i => w[i]?) = wc.map some) (hnd : va_nd is = true)  (hf : w0.map Prod.fst = wc.map Prod.fst) (hs2 : v0.toList ++ rest = st2) (hw2 : Xput w is w0 = w2) (pc2 : Nat) (hp : pc + 3 = pc2) (hd : decode M.2.1 pc = .ok (.invokespecial ix, 3)) (kk : Runs X d M mc ms Q pc2 ls st2 (k + mc2) (j + ms2) w2) : Runs X d M mc ms Q pc ls st k j w := by
  subst hs2; subst hw2
  exact r_callIn hlk hln hM hd2 hnp hst hcat hk hj is hC hnd  pc2 hp hd (fun v w' hq => ⟨w', [], by simp, by rw [hq.2]; exact hf, by rw [hq.1, hq.2, List.append_nil]; exact kk⟩)
theorem r_callInA1 {X : Xn} {d : Nat} {M : XM} {mc ms : Nat} {Q : Option Value → va_W → Prop} {pc : Nat} {ls : List (Option Value)} {rest : List Value} {k j : Nat} {w : va_W} {M2 : XM} {ix np d2 mc2 ms2 : Nat} {As : List Value} {st st2 : List Value} {w2 : va_W} {v0 : Option Value} {b : Nat}  (hlk : LIn M2 np) (hln : Cond.methodLinkNest M.1.cls ix M2.1 "HandshakeBinds" ∈ NW) (hM : Does X d2 M2 (.ref b :: As) w mc2 ms2 (fun v w' => v = v0 ∧ w' = w2)) (hd2 : d2 + 1 ≤ d) (hnp : As.length = np) (hst : As.reverse ++ .ref b :: rest = st) (hcat : (rest.map fun v => v.category).sum ≤ 8) (hk : k + mc2 ≤ mc) (hj : j + ms2 ≤ ms)  (hf : w2.map Prod.fst = w.map Prod.fst) (hs2 : v0.toList ++ rest = st2) (pc2 : Nat) (hp : pc + 3 = pc2) (hd : decode M.2.1 pc = .ok (.invokespecial ix, 3)) (kk : Runs X d M mc ms Q pc2 ls st2 (k + mc2) (j + ms2) w2) : Runs X d M mc ms Q pc ls st k j w := by
  subst hs2
  have hl : w2.length = w.length := by have := congrArg List.length hf; simpa using this
  exact r_callIn hlk hln hM hd2 hnp hst hcat hk hj (List.range w.length) (Xall_C w) (Xall_nd _)  pc2 hp hd (fun v w' hq => ⟨w', [], by simp, by rw [hq.2]; exact hf, by rw [hq.1, hq.2, List.append_nil, Xput_all w w2 hl]; exact kk⟩)
theorem r_callInAQ {X : Xn} {d : Nat} {M : XM} {mc ms : Nat} {Q : Option Value → va_W → Prop} {pc : Nat} {ls : List (Option Value)} {rest : List Value} {k j : Nat} {w : va_W} {M2 : XM} {ix np d2 mc2 ms2 : Nat} {As : List Value} {st st2 : List Value} {w2 : va_W} {Q2 : Option Value → va_W → Prop} {b : Nat}  (hlk : LIn M2 np) (hln : Cond.methodLinkNest M.1.cls ix M2.1 "HandshakeBinds" ∈ NW) (hM : Does X d2 M2 (.ref b :: As) w mc2 ms2 Q2) (hd2 : d2 + 1 ≤ d) (hnp : As.length = np) (hst : As.reverse ++ .ref b :: rest = st) (hcat : (rest.map fun v => v.category).sum ≤ 8) (hk : k + mc2 ≤ mc) (hj : j + ms2 ≤ ms)  (pc2 : Nat) (hp : pc + 3 = pc2) (hd : decode M.2.1 pc = .ok (.invokespecial ix, 3)) (kk : ∀ v w', Q2 v w' → w'.map Prod.fst = w.map Prod.fst ∧ Runs X d M mc ms Q pc2 ls (v.toList ++ rest) (k + mc2) (j + ms2) w') : Runs X d M mc ms Q pc ls st k j w :=
  r_callIn hlk hln hM hd2 hnp hst hcat hk hj (List.range w.length) (Xall_C w) (Xall_nd _)  pc2 hp hd (fun v w' hq => ⟨w', [], by simp, (kk v w' hq).1, by
    have hl : w'.length = w.length := by have := congrArg List.length (kk v w' hq).1; simpa using this
    rw [List.append_nil, Xput_all w w' hl]; exact (kk v w' hq).2⟩)
theorem r_callInQ {X : Xn} {d : Nat} {M : XM} {mc ms : Nat} {Q : Option Value → va_W → Prop} {pc : Nat} {ls : List (Option Value)} {rest : List Value} {k j : Nat} {w : va_W} {M2 : XM} {ix np d2 mc2 ms2 : Nat} {As : List Value} {st st2 : List Value} {w2 : va_W} {wc : va_W} {Q2 : Option Value → va_W → Prop} {b : Nat}  (hlk : LIn M2 np) (hln : Cond.methodLinkNest M.1.cls ix M2.1 "HandshakeBinds" ∈ NW) (hM : Does X d2 M2 (.ref b :: As) wc mc2 ms2 Q2) (hd2 : d2 + 1 ≤ d) (hnp : As.length = np) (hst : As.reverse ++ .ref b :: rest = st) (hcat : (rest.map fun v => v.category).sum ≤ 8) (hk : k + mc2 ≤ mc) (hj : j + ms2 ≤ ms) (is : List Nat) (hC : is.map (fun i => w[i]?) = wc.map some) (hnd : va_nd is = true)  (pc2 : Nat) (hp : pc + 3 = pc2) (hd : decode M.2.1 pc = .ok (.invokespecial ix, 3)) (kk : ∀ v w', Q2 v w' → w'.map Prod.fst = wc.map Prod.fst ∧ Runs X d M mc ms Q pc2 ls (v.toList ++ rest) (k + mc2) (j + ms2) (Xput w is w')) : Runs X d M mc ms Q pc ls st k j w :=
  r_callIn hlk hln hM hd2 hnp hst hcat hk hj is hC hnd  pc2 hp hd (fun v w' hq => ⟨w', [], by simp, (kk v w' hq).1, by rw [List.append_nil]; exact (kk v w' hq).2⟩)
/-- Nat-valued places, and rows of places -/
def u1 (ν : Nat → Nat) (k x : Nat) : Nat → Nat := fun i => if i = k then x else ν i
def u2 (σ : Nat → Nat → Int32) (k : Nat) (f : Nat → Int32) : Nat → Nat → Int32 := fun c => if c = k then f else σ c
theorem u1_s (ν : Nat → Nat) (k x : Nat) : u1 ν k x k = x := if_pos rfl
theorem u1_n {ν : Nat → Nat} {k x i : Nat} (h : i ≠ k) : u1 ν k x i = ν i := if_neg h
theorem u2_s (σ : Nat → Nat → Int32) (k : Nat) (f : Nat → Int32) : u2 σ k f k = f := if_pos rfl
theorem u2_n {σ : Nat → Nat → Int32} {k : Nat} {f : Nat → Int32} {i : Nat} (h : i ≠ k) : u2 σ k f i = σ i := if_neg h
end
section
/-! WHAT THE METHODS ARE ABOUT, as numbers -/
theorem nI_one : nI 1 = 1 := rfl
def cn (x : Int32) : Nat := x.toNatClampNeg
theorem cn_nI {n : Nat} (h : n < 2 ^ 31) : cn (nI n) = n := nI_clamp h
def inR (v lo hi : Int32) : Bool := decide (lo ≤ v) && decide (v ≤ hi)
theorem inR_lt {v lo hi : Int32} (h : v < lo) : inR v lo hi = false := by simp [inR, Int32.not_le.mpr h]
theorem inR_gt {v lo hi : Int32} (h : hi < v) : inR v lo hi = false := by simp [inR, Int32.not_le.mpr h]
theorem inR_in {v lo hi : Int32} (h : ¬ v < lo) (h2 : ¬ hi < v) : inR v lo hi = true := by simp [inR, Int32.not_lt.mp h, Int32.not_lt.mp h2]
theorem inR_n {x n m : Nat} (hx : x < 2 ^ 31) (hm : m < 2 ^ 31) (hn : n < 2 ^ 31) : inR (nI x) (nI n) (nI m) = (decide (n ≤ x) && decide (x ≤ m)) := by
  unfold inR
  rw [show decide (nI n ≤ nI x) = decide (n ≤ x) from by simp [nI_leI hn hx], show decide (nI x ≤ nI m) = decide (x ≤ m) from by simp [nI_leI hx hm]]
theorem inR_t {x : Int32} {m : Nat} (hm : m < 2 ^ 31) (h : inR x (nI 0) (nI m) = true) : ∃ y : Nat, y ≤ m ∧ x = nI y := by
  simp only [inR, Bool.and_eq_true, decide_eq_true_eq, nI_0] at h
  obtain ⟨j, hj, e⟩ := nI_of2 (M := nI m) (n := m) (nI_toInt hm) (Int32.not_lt.mpr h.1) h.2
  exact ⟨j, hj, e⟩
def isB (n : Nat) (p : Int32) : Bool := inR p 0 (nI n - 1)
theorem nI_m1T {n : Nat} (h : n < 2 ^ 30) : (nI n - 1).toInt = (n : Int) - 1 := by
  have := pk_sub_toInt (a := n) (b := 1) h (by omega)
  rw [nI_one] at this; simpa using this
theorem isB_t {n : Nat} {p : Int32} (hn : n ≤ 6) (h : isB n p = true) : ∃ P : Nat, P < n ∧ p = nI P := by
  simp only [isB, inR, Bool.and_eq_true, decide_eq_true_eq] at h
  rcases pk_ix p (n := n) (by omega) with h1 | h1 | h1
  · exact absurd h1 (Int32.not_lt.mpr h.1)
  · have a := Int32.le_iff_toInt_le.mp h1
    have b := Int32.le_iff_toInt_le.mp h.2
    rw [nI_toInt (by omega)] at a
    rw [nI_m1T (by omega)] at b
    omega
  · exact h1
theorem isB_of {n P : Nat} (hn : n ≤ 6) (h : P < n) : isB n (nI P) = true := by
  simp only [isB, inR, Bool.and_eq_true, decide_eq_true_eq]
  refine ⟨?_, Int32.le_iff_toInt_le.mpr ?_⟩
  · rw [nI_ge0 (by omega)]; omega
  · rw [nI_toInt (by omega), nI_m1T (by omega)]; omega
theorem are_t {n : Nat} {p q : Int32} (hn : n ≤ 6) (h : (isB n p && isB n q) = true) : ∃ P Q : Nat, P < n ∧ Q < n ∧ p = nI P ∧ q = nI Q := by
  rw [Bool.and_eq_true] at h
  obtain ⟨P, h1, h2⟩ := isB_t hn h.1
  obtain ⟨Q, h3, h4⟩ := isB_t hn h.2
  exact ⟨P, Q, h1, h3, h2, h4⟩
-- bits
theorem s_l : ∀ n, n < 32 → ((nI n &&& 31).toBitVec.smod 32).toNat = n := by decide +kernel
theorem nx_and (a b : Nat) : nI a &&& nI b = nI (a &&& b) := by
  apply Int32.toBitVec_inj.1
  show BitVec.ofNat 32 a &&& BitVec.ofNat 32 b = BitVec.ofNat 32 (a &&& b)
  apply BitVec.eq_of_getLsbD_eq
  intro i hi
  simp [hi]
theorem nx_or (a b : Nat) : nI a ||| nI b = nI (a ||| b) := by
  apply Int32.toBitVec_inj.1
  show BitVec.ofNat 32 a ||| BitVec.ofNat 32 b = BitVec.ofNat 32 (a ||| b)
  apply BitVec.eq_of_getLsbD_eq
  intro i hi
  simp [hi]
theorem nx_xor (a b : Nat) : nI a ^^^ nI b = nI (a ^^^ b) := by
  apply Int32.toBitVec_inj.1
  show BitVec.ofNat 32 a ^^^ BitVec.ofNat 32 b = BitVec.ofNat 32 (a ^^^ b)
  apply BitVec.eq_of_getLsbD_eq
  intro i hi
  simp [hi]
theorem nI_shr {n k : Nat} (h : n < 2 ^ 31) (hk : k < 32) : nI n >>> (nI k &&& 31) = nI (n >>> k) := by
  rw [pk_shrN h (nI k &&& 31) k (s_l k hk), Nat.shiftRight_eq_div_pow]
theorem nI_shl {n k : Nat} (hk : k < 32) (h : n * 2 ^ k < 2 ^ 32) : nI n <<< (nI k &&& 31) = nI (n <<< k) := by
  rw [pk_shlN (nI k &&& 31) k (s_l k hk) h, Nat.shiftLeft_eq]
theorem one_shl {k : Nat} (hk : k < 31) : (1 : Nat) * 2 ^ k < 2 ^ 32 := by
  rw [Nat.one_mul]; exact Nat.pow_lt_pow_right (by decide) (by omega)
theorem b01 (x : Nat) : x &&& 1 = 0 ∨ x &&& 1 = 1 := by
  rw [Nat.and_one_is_mod]; omega
theorem b0 {x : Nat} (h : ¬ x &&& 1 = 1) : x &&& 1 = 0 := (b01 x).resolve_right h
theorem b1 {x : Nat} (h : ¬ x &&& 1 = 0) : x &&& 1 = 1 := (b01 x).resolve_left h
theorem b_lt (x : Nat) : x &&& 1 < 2 := by rcases b01 x with h | h <;> omega
theorem shr_lt {S : Nat} (k : Nat) (h : S < 64) : S >>> k < 64 := by
  rw [Nat.shiftRight_eq_div_pow]; exact Nat.lt_of_le_of_lt (Nat.div_le_self _ _) h
theorem or_lt {S k : Nat} (h : S < 64) (hk : k < 6) : S ||| 1 <<< k < 64 := by
  have : ∀ S : Fin 64, ∀ k : Fin 6, S.val ||| 1 <<< k.val < 64 := by decide +kernel
  exact this ⟨S, h⟩ ⟨k, hk⟩
theorem shl_lt {k : Nat} (hk : k ≤ 6) : 1 <<< k ≤ 64 := by
  have : ∀ k : Fin 7, 1 <<< k.val ≤ 64 := by decide +kernel
  exact this ⟨k, by omega⟩
theorem shl_lt6 {k : Nat} (hk : k < 6) : 1 <<< k < 64 := by
  have : ∀ k : Fin 6, 1 <<< k.val < 64 := by decide +kernel
  exact this ⟨k, by omega⟩
-- sums of debts
def osum (de : Nat → Int32) (p : Nat) : Nat → Int32
  | 0 => 0
  | k + 1 => osum de p k + de (6 * p + k)
def dsum (de : Nat → Int32) (S p : Nat) : Nat → Int32
  | 0 => 0
  | k + 1 => if S >>> k &&& 1 = 0 then dsum de S p k + de (6 * k + p) else dsum de S p k
def bal (n : Nat) (de : Nat → Int32) (p : Nat) : Int32 := dsum de 0 p n - osum de p n
-- who fails
def cant (n : Nat) (pu de : Nat → Int32) (S p : Nat) : Bool := decide (pu p + dsum de S p n < osum de p n)
def fr (n : Nat) (pu de : Nat → Int32) (S : Nat) : Nat → Nat
  | 0 => S
  | k + 1 => if fr n pu de S k >>> k &&& 1 = 0 ∧ cant n pu de (fr n pu de S k) k = true then fr n pu de S k ||| 1 <<< k else fr n pu de S k
def fm (n : Nat) (pu de : Nat → Int32) (S : Nat) : Nat → Bool
  | 0 => false
  | k + 1 => if fr n pu de S k >>> k &&& 1 = 0 ∧ cant n pu de (fr n pu de S k) k = true then true else fm n pu de S k
def fl (n : Nat) (pu de : Nat → Int32) : Nat → Nat → Nat
  | 0, S => S
  | f + 1, S => if fm n pu de S n = true then fl n pu de f (fr n pu de S n) else fr n pu de S n
def fails (n : Nat) (pu de : Nat → Int32) (S : Nat) : Nat := fl n pu de 7 S
/-- bits that are clear -/
def cz (S : Nat) : Nat := 6 - ((S >>> 0 &&& 1) + (S >>> 1 &&& 1) + (S >>> 2 &&& 1) + (S >>> 3 &&& 1) + (S >>> 4 &&& 1) + (S >>> 5 &&& 1))
theorem cz_or {S k : Nat} (h : S < 64) (hk : k < 6) (hb : S >>> k &&& 1 = 0) : cz (S ||| 1 <<< k) < cz S := by
  have : ∀ S : Fin 64, ∀ k : Fin 6, S.val >>> k.val &&& 1 = 0 → cz (S.val ||| 1 <<< k.val) < cz S.val := by decide +kernel
  exact this ⟨S, h⟩ ⟨k, hk⟩ hb
theorem cz_le (S : Nat) : cz S ≤ 6 := Nat.sub_le _ _
theorem fr_props {n : Nat} {pu de : Nat → Int32} {S : Nat} (hS : S < 64) : ∀ k, k ≤ 6 → fr n pu de S k < 64 ∧ cz (fr n pu de S k) ≤ cz S ∧ (fm n pu de S k = true → cz (fr n pu de S k) < cz S) := by
  intro k
  induction k with
  | zero => intro _; exact ⟨hS, Nat.le_refl _, fun h => by simp [fm] at h⟩
  | succ k ih =>
    intro hk
    obtain ⟨h1, h2, h3⟩ := ih (by omega)
    simp only [fr, fm]
    by_cases hc : fr n pu de S k >>> k &&& 1 = 0 ∧ cant n pu de (fr n pu de S k) k = true
    · rw [if_pos hc, if_pos hc]
      have := cz_or h1 (show k < 6 by omega) hc.1
      exact ⟨or_lt h1 (by omega), by omega, fun _ => by omega⟩
    · rw [if_neg hc, if_neg hc]
      exact ⟨h1, h2, h3⟩
theorem fr_lt {n : Nat} {pu de : Nat → Int32} {S k : Nat} (hS : S < 64) (hk : k ≤ 6) : fr n pu de S k < 64 := (fr_props hS k hk).1
theorem fl_lt {n : Nat} {pu de : Nat → Int32} (hn : n ≤ 6) : ∀ (f S : Nat), S < 64 → fl n pu de f S < 64 := by
  intro f
  induction f with
  | zero => intro S h; exact h
  | succ f ih =>
    intro S h
    simp only [fl]
    split
    · exact ih _ (fr_lt h hn)
    · exact fr_lt h hn
theorem fails_lt {n : Nat} {pu de : Nat → Int32} {S : Nat} (hn : n ≤ 6) (hS : S < 64) : fails n pu de S < 64 := fl_lt hn 7 S hS
-- what a gift is
def gbad (n : Nat) (pu de : Nat → Int32) (p g : Nat) : Bool := decide (fails n (upd pu p (pu p + nI g)) de 0 >>> p &&& 1 = 1)
def giftP (n : Nat) (pu de : Nat → Int32) (p : Nat) (r : Int32) : Prop := (r = -5 ∧ gbad n pu de p 9999 = true) ∨ ∃ g : Nat, g ≤ 9999 ∧ r = nI g ∧ gbad n pu de p g = false ∧ (g = 0 ∨ gbad n pu de p (g - 1) = true)
theorem gift_d {L H : Nat} (h1 : L ≤ H) : nI H - (nI L - 1) = nI (H - L + 1) := by
  rw [← nI_add, ← pk_sub h1, nI_one]; grind
theorem gift_c {L H : Nat} (h1 : L ≤ H) (h2 : H ≤ 10000) : nI H - (nI L - 1) ≤ nI 1 ↔ H ≤ L := by
  rw [gift_d h1, nI_leI (by omega) (by omega)]; omega
theorem gift_m {L H : Nat} (h1 : L < H) (h2 : H ≤ 10000) : (nI L - 1 + nI H) / nI 2 = nI ((L + H - 1) / 2) := by
  have e : nI L - 1 + nI H = nI (L + H - 1) := by
    rw [← pk_sub (a := L + H) (b := 1) (by omega), ← nI_add, nI_one]; grind
  rw [e, pk_div (by omega) (by omega) (by omega)]
theorem upd_upd {f : Nat → Int32} {k : Nat} {x y : Int32} : upd (upd f k x) k y = upd f k y := by
  funext j; by_cases h : j = k
  · rw [h, pk_us, pk_us]
  · rw [pk_un h, pk_un h, pk_un h]
theorem upd_self {f : Nat → Int32} {k : Nat} : upd f k (f k) = f := by
  funext j; by_cases h : j = k
  · rw [h, pk_us]
  · rw [pk_un h]
theorem u2_u2 {σ : Nat → Nat → Int32} {k : Nat} {f g : Nat → Int32} : u2 (u2 σ k f) k g = u2 σ k g := by
  funext c; by_cases h : c = k
  · rw [h, u2_s, u2_s]
  · rw [u2_n h, u2_n h, u2_n h]
theorem u2_self {σ : Nat → Nat → Int32} {k : Nat} : u2 σ k (σ k) = σ := by
  funext c; by_cases h : c = k
  · rw [h, u2_s]
  · rw [u2_n h]
theorem b_lt31 (x : Nat) : x &&& 1 < 2 ^ 31 := Nat.lt_trans (b_lt x) (by decide)
theorem shl_lt31 {k : Nat} (hk : k ≤ 6) : 1 <<< k < 2 ^ 31 := Nat.lt_of_le_of_lt (shl_lt hk) (by decide)
def bsum (n : Nat) (de : Nat → Int32) (S : Nat) : Nat → Int32
  | 0 => 0
  | k + 1 => if S >>> k &&& 1 = 1 then bsum n de S k + bal n de k else bsum n de S k
def osumAll (n : Nat) (de : Nat → Int32) : Nat → Int32
  | 0 => 0
  | k + 1 => osumAll n de k + osum de k n
def ab (x : Int32) : Int32 := if 0 ≤ x then x else 0 - x
/-- offsets of one with those behind it -/
def offI (de : Nat → Int32) (p : Nat) (s0 : Int32) : Nat → Int32
  | 0 => s0
  | k + 1 => offI de p s0 k + ab (de (6 * p + (p + 1 + k)) - de (6 * (p + 1 + k) + p))
def offO (n : Nat) (de : Nat → Int32) : Nat → Int32
  | 0 => 0
  | k + 1 => offI de k (offO n de k) (n - (k + 1))
theorem gift_e (x : Nat) : nI (x + 1) - 1 = nI x := nI_pred x
end
section
def MWf (a ν : Nat → Nat) (σ : Nat → Nat → Int32) : List Value := [.int (nI (ν 0)), .ref (a 1), .ref (a 2), .ref (a 3), .ref (a 4), .ref (a 5), .int (nI (ν 6)), .int (nI (ν 7)), .ref (a 8), .int (nI (ν 9)), .int (σ 10 0), .int (nI (ν 11)), .int (nI (ν 12)), .int (nI (ν 13)), .int (σ 14 0), .ref (a 15), .ref (a 16), .ref (a 17), .ref (a 18), .ref (a 19), .ref (a 20), .int (nI (ν 21)), .ref (a 22), .int (nI (ν 23)), .ref (a 24), .ref (a 25), .ref (a 26), .ref (a 27), .ref (a 28), .int (nI (ν 29)), .ref (a 30), .ref (a 31), .int (nI (ν 32)), .ref (a 33), .ref (a 34), .ref (a 35), .int (nI (ν 36)), .ref (a 37), .int (σ 38 0), .ref (a 39), .ref (a 40), .ref (a 41), .ref (a 42), .ref (a 43), .ref (a 44), .ref (a 45)]
def MW (X : Xn) (a ν : Nat → Nat) (σ : Nat → Nat → Int32) (τ : Nat → Int64) : va_W := [(a 0, .inr (9, MWf a ν σ)), (a 1, .inl (X.2.2.1 0, 6, .inl (σ 1))), (a 2, .inl (X.2.2.1 0, 6, .inl (σ 2))), (a 3, .inl (X.2.2.1 0, 6, .inl (σ 3))), (a 4, .inl (X.2.2.1 0, 24, .inl (σ 4))), (a 5, .inl (X.2.2.1 0, 36, .inl (σ 5))), (a 8, .inl (X.2.2.1 0, 100, .inl (σ 8))), (a 15, .inl (X.2.2.1 0, 6, .inl (σ 15))), (a 16, .inl (X.2.2.1 0, 61, .inl (σ 16))), (a 17, .inl (X.2.2.1 0, 61, .inl (σ 17))), (a 18, .inl (X.2.2.1 0, 61, .inl (σ 18))), (a 19, .inl (X.2.2.1 0, 61, .inl (σ 19))), (a 20, .inl (X.2.2.1 0, 800, .inl (σ 20))), (a 22, .inl (X.2.2.1 2, 110, .inl (σ 22))), (a 24, .inl (X.2.2.1 0, 5, .inl (σ 24))), (a 25, .inl (X.2.2.1 0, 5, .inl (σ 25))), (a 26, .inl (X.2.2.1 0, 5, .inl (σ 26))), (a 27, .inl (X.2.2.1 0, 5, .inl (σ 27))), (a 28, .inl (X.2.2.1 0, 5, .inl (σ 28))), (a 30, .inl (X.2.2.1 0, 10, .inl (σ 30))), (a 31, .inl (X.2.2.1 0, 10, .inl (σ 31))), (a 33, .inl (X.2.2.1 0, 8, .inl (σ 33))), (a 34, .inl (X.2.2.1 0, 8, .inl (σ 34))), (a 35, .inl (X.2.2.1 0, 8, .inl (σ 35))), (a 37, .inl (X.2.2.1 0, 20, .inl (σ 37))), (a 39, .inl (X.2.2.1 0, 156, .inl (σ 39))), (a 40, .inl (X.2.2.1 0, 156, .inl (σ 40))), (a 41, .inl (X.2.2.1 0, 64, .inl (σ 41))), (a 42, .inl (X.2.2.1 2, 3000, .inl (σ 42))), (a 43, .inl (X.2.2.1 0, 6, .inl (σ 43))), (a 44, .inl (X.2.2.1 0, 6, .inl (σ 44))), (a 45, .inl (X.2.2.1 1, 360, .inr (.inl τ)))]
def M_Mod_within : XM := (⟨"HandshakeBindsModel", "within", "(III)Z"⟩, prog_11_method_2_code, 3, (some .boolean))
theorem d_Mod_within_0 : decode M_Mod_within.2.1 0 = .ok (.iload_n 0, 1) := by decide +kernel
theorem d_Mod_within_1 : decode M_Mod_within.2.1 1 = .ok (.iload_n 1, 1) := by decide +kernel
theorem d_Mod_within_2 : decode M_Mod_within.2.1 2 = .ok (.if_icmp .lt 12, 3) := by decide +kernel
theorem d_Mod_within_14 : decode M_Mod_within.2.1 14 = .ok (.iconst 0, 1) := by decide +kernel
theorem d_Mod_within_15 : decode M_Mod_within.2.1 15 = .ok (.ireturn, 1) := by decide +kernel
theorem d_Mod_within_5 : decode M_Mod_within.2.1 5 = .ok (.iload_n 0, 1) := by decide +kernel
theorem d_Mod_within_6 : decode M_Mod_within.2.1 6 = .ok (.iload_n 2, 1) := by decide +kernel
theorem d_Mod_within_7 : decode M_Mod_within.2.1 7 = .ok (.if_icmp .gt 7, 3) := by decide +kernel
theorem d_Mod_within_10 : decode M_Mod_within.2.1 10 = .ok (.iconst 1, 1) := by decide +kernel
theorem d_Mod_within_11 : decode M_Mod_within.2.1 11 = .ok (.goto 4, 3) := by decide +kernel
def M_Mod_isOne : XM := (⟨"HandshakeBindsModel", "isOne", "(I)Z"⟩, prog_11_method_3_code, 2, (some .boolean))
theorem d_Mod_isOne_0 : decode M_Mod_isOne.2.1 0 = .ok (.iload_n 1, 1) := by decide +kernel
theorem d_Mod_isOne_1 : decode M_Mod_isOne.2.1 1 = .ok (.iconst 0, 1) := by decide +kernel
theorem d_Mod_isOne_2 : decode M_Mod_isOne.2.1 2 = .ok (.aload_n 0, 1) := by decide +kernel
theorem d_Mod_isOne_3 : decode M_Mod_isOne.2.1 3 = .ok (.getfield 111, 3) := by decide +kernel
theorem gf_Mod_111 : GF "HandshakeBindsModel" 111 9 0 := ⟨_, _, _, rfl, by decide, i_Mod, inTB 850 (by decide +kernel) rfl⟩
theorem d_Mod_isOne_6 : decode M_Mod_isOne.2.1 6 = .ok (.iconst 1, 1) := by decide +kernel
theorem d_Mod_isOne_7 : decode M_Mod_isOne.2.1 7 = .ok (.isub, 1) := by decide +kernel
theorem d_Mod_isOne_8 : decode M_Mod_isOne.2.1 8 = .ok (.invokestatic 114, 3) := by decide +kernel
theorem ln_Mod_114 : Cond.methodLink "HandshakeBindsModel" 114 M_Mod_within.1 ∈ TB := inTB 994 (by decide +kernel) rfl
theorem lk_Mod_within : LSt M_Mod_within 3 := ⟨⟨inTB 72 (by decide +kernel) rfl, inTB 996 (by decide +kernel) rfl, ⟨by decide, by decide, by decide +kernel⟩, by decide⟩, inTB 995 (by decide +kernel) rfl⟩
theorem d_Mod_isOne_11 : decode M_Mod_isOne.2.1 11 = .ok (.ireturn, 1) := by decide +kernel
def M_Mod_are : XM := (⟨"HandshakeBindsModel", "are", "(II)Z"⟩, prog_11_method_4_code, 3, (some .boolean))
theorem d_Mod_are_0 : decode M_Mod_are.2.1 0 = .ok (.aload_n 0, 1) := by decide +kernel
theorem d_Mod_are_1 : decode M_Mod_are.2.1 1 = .ok (.iload_n 1, 1) := by decide +kernel
theorem d_Mod_are_2 : decode M_Mod_are.2.1 2 = .ok (.invokevirtual 118, 3) := by decide +kernel
theorem ln_Mod_118 : Cond.methodLink "HandshakeBindsModel" 118 M_Mod_isOne.1 ∈ TB := inTB 1001 (by decide +kernel) rfl
theorem lk_Mod_isOne : LVt M_Mod_isOne 1 := ⟨⟨inTB 72 (by decide +kernel) rfl, inTB 1004 (by decide +kernel) rfl, ⟨by decide, by decide, by decide +kernel⟩, by decide⟩, inTB 1003 (by decide +kernel) rfl, inTB 20 (by decide +kernel) rfl⟩
theorem d_Mod_are_5 : decode M_Mod_are.2.1 5 = .ok (.ifCond .eq 15, 3) := by decide +kernel
theorem d_Mod_are_20 : decode M_Mod_are.2.1 20 = .ok (.iconst 0, 1) := by decide +kernel
theorem d_Mod_are_21 : decode M_Mod_are.2.1 21 = .ok (.ireturn, 1) := by decide +kernel
theorem d_Mod_are_8 : decode M_Mod_are.2.1 8 = .ok (.aload_n 0, 1) := by decide +kernel
theorem d_Mod_are_9 : decode M_Mod_are.2.1 9 = .ok (.iload_n 2, 1) := by decide +kernel
theorem d_Mod_are_10 : decode M_Mod_are.2.1 10 = .ok (.invokevirtual 118, 3) := by decide +kernel
theorem d_Mod_are_13 : decode M_Mod_are.2.1 13 = .ok (.ifCond .eq 7, 3) := by decide +kernel
theorem d_Mod_are_16 : decode M_Mod_are.2.1 16 = .ok (.iconst 1, 1) := by decide +kernel
theorem d_Mod_are_17 : decode M_Mod_are.2.1 17 = .ok (.goto 4, 3) := by decide +kernel
def M_Mod_isSqueeze : XM := (⟨"HandshakeBindsModel", "isSqueeze", "(I)Z"⟩, prog_11_method_5_code, 1, (some .boolean))
theorem d_Mod_isSqueeze_0 : decode M_Mod_isSqueeze.2.1 0 = .ok (.iload_n 0, 1) := by decide +kernel
theorem d_Mod_isSqueeze_1 : decode M_Mod_isSqueeze.2.1 1 = .ok (.iconst 0, 1) := by decide +kernel
theorem d_Mod_isSqueeze_2 : decode M_Mod_isSqueeze.2.1 2 = .ok (.bipush 99, 2) := by decide +kernel
theorem d_Mod_isSqueeze_4 : decode M_Mod_isSqueeze.2.1 4 = .ok (.invokestatic 114, 3) := by decide +kernel
theorem d_Mod_isSqueeze_7 : decode M_Mod_isSqueeze.2.1 7 = .ok (.ireturn, 1) := by decide +kernel
def M_Mod_owes : XM := (⟨"HandshakeBindsModel", "owes", "(I)I"⟩, prog_11_method_7_code, 4, (some .int))
theorem d_Mod_owes_0 : decode M_Mod_owes.2.1 0 = .ok (.iconst 0, 1) := by decide +kernel
theorem d_Mod_owes_1 : decode M_Mod_owes.2.1 1 = .ok (.istore_n 2, 1) := by decide +kernel
theorem d_Mod_owes_2 : decode M_Mod_owes.2.1 2 = .ok (.iconst 0, 1) := by decide +kernel
theorem d_Mod_owes_3 : decode M_Mod_owes.2.1 3 = .ok (.istore_n 3, 1) := by decide +kernel
theorem d_Mod_owes_4 : decode M_Mod_owes.2.1 4 = .ok (.iload_n 3, 1) := by decide +kernel
theorem d_Mod_owes_5 : decode M_Mod_owes.2.1 5 = .ok (.aload_n 0, 1) := by decide +kernel
theorem d_Mod_owes_6 : decode M_Mod_owes.2.1 6 = .ok (.getfield 111, 3) := by decide +kernel
theorem d_Mod_owes_9 : decode M_Mod_owes.2.1 9 = .ok (.if_icmp .ge 23, 3) := by decide +kernel
theorem d_Mod_owes_32 : decode M_Mod_owes.2.1 32 = .ok (.iload_n 2, 1) := by decide +kernel
theorem d_Mod_owes_33 : decode M_Mod_owes.2.1 33 = .ok (.ireturn, 1) := by decide +kernel
theorem d_Mod_owes_12 : decode M_Mod_owes.2.1 12 = .ok (.iload_n 2, 1) := by decide +kernel
theorem d_Mod_owes_13 : decode M_Mod_owes.2.1 13 = .ok (.aload_n 0, 1) := by decide +kernel
theorem d_Mod_owes_14 : decode M_Mod_owes.2.1 14 = .ok (.getfield 24, 3) := by decide +kernel
theorem gf_Mod_24 : GF "HandshakeBindsModel" 24 9 5 := ⟨_, _, _, rfl, by decide, i_Mod, inTB 855 (by decide +kernel) rfl⟩
theorem d_Mod_owes_17 : decode M_Mod_owes.2.1 17 = .ok (.bipush 6, 2) := by decide +kernel
theorem d_Mod_owes_19 : decode M_Mod_owes.2.1 19 = .ok (.iload_n 1, 1) := by decide +kernel
theorem d_Mod_owes_20 : decode M_Mod_owes.2.1 20 = .ok (.imul, 1) := by decide +kernel
theorem d_Mod_owes_21 : decode M_Mod_owes.2.1 21 = .ok (.iload_n 3, 1) := by decide +kernel
theorem d_Mod_owes_22 : decode M_Mod_owes.2.1 22 = .ok (.iadd, 1) := by decide +kernel
theorem d_Mod_owes_23 : decode M_Mod_owes.2.1 23 = .ok (.iaload, 1) := by decide +kernel
theorem d_Mod_owes_24 : decode M_Mod_owes.2.1 24 = .ok (.iadd, 1) := by decide +kernel
theorem d_Mod_owes_25 : decode M_Mod_owes.2.1 25 = .ok (.istore_n 2, 1) := by decide +kernel
theorem d_Mod_owes_26 : decode M_Mod_owes.2.1 26 = .ok (.iinc 3 1, 3) := by decide +kernel
theorem d_Mod_owes_29 : decode M_Mod_owes.2.1 29 = .ok (.goto (-25), 3) := by decide +kernel
def M_Mod_owed : XM := (⟨"HandshakeBindsModel", "owed", "(II)I"⟩, prog_11_method_8_code, 5, (some .int))
theorem d_Mod_owed_0 : decode M_Mod_owed.2.1 0 = .ok (.iconst 0, 1) := by decide +kernel
theorem d_Mod_owed_1 : decode M_Mod_owed.2.1 1 = .ok (.istore_n 3, 1) := by decide +kernel
theorem d_Mod_owed_2 : decode M_Mod_owed.2.1 2 = .ok (.iconst 0, 1) := by decide +kernel
theorem d_Mod_owed_3 : decode M_Mod_owed.2.1 3 = .ok (.istore 4, 2) := by decide +kernel
theorem d_Mod_owed_5 : decode M_Mod_owed.2.1 5 = .ok (.iload 4, 2) := by decide +kernel
theorem d_Mod_owed_7 : decode M_Mod_owed.2.1 7 = .ok (.aload_n 0, 1) := by decide +kernel
theorem d_Mod_owed_8 : decode M_Mod_owed.2.1 8 = .ok (.getfield 111, 3) := by decide +kernel
theorem d_Mod_owed_11 : decode M_Mod_owed.2.1 11 = .ok (.if_icmp .ge 33, 3) := by decide +kernel
theorem d_Mod_owed_44 : decode M_Mod_owed.2.1 44 = .ok (.iload_n 3, 1) := by decide +kernel
theorem d_Mod_owed_45 : decode M_Mod_owed.2.1 45 = .ok (.ireturn, 1) := by decide +kernel
theorem d_Mod_owed_14 : decode M_Mod_owed.2.1 14 = .ok (.iload_n 2, 1) := by decide +kernel
theorem d_Mod_owed_15 : decode M_Mod_owed.2.1 15 = .ok (.iload 4, 2) := by decide +kernel
theorem d_Mod_owed_17 : decode M_Mod_owed.2.1 17 = .ok (.ishr, 1) := by decide +kernel
theorem d_Mod_owed_18 : decode M_Mod_owed.2.1 18 = .ok (.iconst 1, 1) := by decide +kernel
theorem d_Mod_owed_19 : decode M_Mod_owed.2.1 19 = .ok (.iand, 1) := by decide +kernel
theorem d_Mod_owed_20 : decode M_Mod_owed.2.1 20 = .ok (.ifCond .ne 18, 3) := by decide +kernel
theorem d_Mod_owed_38 : decode M_Mod_owed.2.1 38 = .ok (.iinc 4 1, 3) := by decide +kernel
theorem d_Mod_owed_41 : decode M_Mod_owed.2.1 41 = .ok (.goto (-36), 3) := by decide +kernel
theorem d_Mod_owed_23 : decode M_Mod_owed.2.1 23 = .ok (.iload_n 3, 1) := by decide +kernel
theorem d_Mod_owed_24 : decode M_Mod_owed.2.1 24 = .ok (.aload_n 0, 1) := by decide +kernel
theorem d_Mod_owed_25 : decode M_Mod_owed.2.1 25 = .ok (.getfield 24, 3) := by decide +kernel
theorem d_Mod_owed_28 : decode M_Mod_owed.2.1 28 = .ok (.bipush 6, 2) := by decide +kernel
theorem d_Mod_owed_30 : decode M_Mod_owed.2.1 30 = .ok (.iload 4, 2) := by decide +kernel
theorem d_Mod_owed_32 : decode M_Mod_owed.2.1 32 = .ok (.imul, 1) := by decide +kernel
theorem d_Mod_owed_33 : decode M_Mod_owed.2.1 33 = .ok (.iload_n 1, 1) := by decide +kernel
theorem d_Mod_owed_34 : decode M_Mod_owed.2.1 34 = .ok (.iadd, 1) := by decide +kernel
theorem d_Mod_owed_35 : decode M_Mod_owed.2.1 35 = .ok (.iaload, 1) := by decide +kernel
theorem d_Mod_owed_36 : decode M_Mod_owed.2.1 36 = .ok (.iadd, 1) := by decide +kernel
theorem d_Mod_owed_37 : decode M_Mod_owed.2.1 37 = .ok (.istore_n 3, 1) := by decide +kernel
def M_Mod_balance : XM := (⟨"HandshakeBindsModel", "balance", "(I)I"⟩, prog_11_method_9_code, 2, (some .int))
theorem d_Mod_balance_0 : decode M_Mod_balance.2.1 0 = .ok (.aload_n 0, 1) := by decide +kernel
theorem d_Mod_balance_1 : decode M_Mod_balance.2.1 1 = .ok (.iload_n 1, 1) := by decide +kernel
theorem d_Mod_balance_2 : decode M_Mod_balance.2.1 2 = .ok (.iconst 0, 1) := by decide +kernel
theorem d_Mod_balance_3 : decode M_Mod_balance.2.1 3 = .ok (.invokevirtual 122, 3) := by decide +kernel
theorem ln_Mod_122 : Cond.methodLink "HandshakeBindsModel" 122 M_Mod_owed.1 ∈ TB := inTB 1010 (by decide +kernel) rfl
theorem lk_Mod_owed : LVt M_Mod_owed 2 := ⟨⟨inTB 72 (by decide +kernel) rfl, inTB 1013 (by decide +kernel) rfl, ⟨by decide, by decide, by decide +kernel⟩, by decide⟩, inTB 1012 (by decide +kernel) rfl, inTB 22 (by decide +kernel) rfl⟩
theorem d_Mod_balance_6 : decode M_Mod_balance.2.1 6 = .ok (.aload_n 0, 1) := by decide +kernel
theorem d_Mod_balance_7 : decode M_Mod_balance.2.1 7 = .ok (.iload_n 1, 1) := by decide +kernel
theorem d_Mod_balance_8 : decode M_Mod_balance.2.1 8 = .ok (.invokevirtual 126, 3) := by decide +kernel
theorem ln_Mod_126 : Cond.methodLink "HandshakeBindsModel" 126 M_Mod_owes.1 ∈ TB := inTB 1006 (by decide +kernel) rfl
theorem lk_Mod_owes : LVt M_Mod_owes 1 := ⟨⟨inTB 72 (by decide +kernel) rfl, inTB 1009 (by decide +kernel) rfl, ⟨by decide, by decide, by decide +kernel⟩, by decide⟩, inTB 1008 (by decide +kernel) rfl, inTB 21 (by decide +kernel) rfl⟩
theorem d_Mod_balance_11 : decode M_Mod_balance.2.1 11 = .ok (.isub, 1) := by decide +kernel
theorem d_Mod_balance_12 : decode M_Mod_balance.2.1 12 = .ok (.ireturn, 1) := by decide +kernel
def M_Mod_fails : XM := (⟨"HandshakeBindsModel", "fails", "(I)I"⟩, prog_11_method_37_code, 5, (some .int))
theorem d_Mod_fails_0 : decode M_Mod_fails.2.1 0 = .ok (.iload_n 1, 1) := by decide +kernel
theorem d_Mod_fails_1 : decode M_Mod_fails.2.1 1 = .ok (.istore_n 2, 1) := by decide +kernel
theorem d_Mod_fails_2 : decode M_Mod_fails.2.1 2 = .ok (.iconst 1, 1) := by decide +kernel
theorem d_Mod_fails_3 : decode M_Mod_fails.2.1 3 = .ok (.istore_n 3, 1) := by decide +kernel
theorem d_Mod_fails_4 : decode M_Mod_fails.2.1 4 = .ok (.iload_n 3, 1) := by decide +kernel
theorem d_Mod_fails_5 : decode M_Mod_fails.2.1 5 = .ok (.ifCond .eq 72, 3) := by decide +kernel
theorem d_Mod_fails_77 : decode M_Mod_fails.2.1 77 = .ok (.iload_n 2, 1) := by decide +kernel
theorem d_Mod_fails_78 : decode M_Mod_fails.2.1 78 = .ok (.ireturn, 1) := by decide +kernel
theorem d_Mod_fails_8 : decode M_Mod_fails.2.1 8 = .ok (.iconst 0, 1) := by decide +kernel
theorem d_Mod_fails_9 : decode M_Mod_fails.2.1 9 = .ok (.istore_n 3, 1) := by decide +kernel
theorem d_Mod_fails_10 : decode M_Mod_fails.2.1 10 = .ok (.iconst 0, 1) := by decide +kernel
theorem d_Mod_fails_11 : decode M_Mod_fails.2.1 11 = .ok (.istore 4, 2) := by decide +kernel
theorem d_Mod_fails_13 : decode M_Mod_fails.2.1 13 = .ok (.iload 4, 2) := by decide +kernel
theorem d_Mod_fails_15 : decode M_Mod_fails.2.1 15 = .ok (.aload_n 0, 1) := by decide +kernel
theorem d_Mod_fails_16 : decode M_Mod_fails.2.1 16 = .ok (.getfield 111, 3) := by decide +kernel
theorem d_Mod_fails_19 : decode M_Mod_fails.2.1 19 = .ok (.if_icmp .ge 55, 3) := by decide +kernel
theorem d_Mod_fails_74 : decode M_Mod_fails.2.1 74 = .ok (.goto (-70), 3) := by decide +kernel
theorem d_Mod_fails_22 : decode M_Mod_fails.2.1 22 = .ok (.iload_n 2, 1) := by decide +kernel
theorem d_Mod_fails_23 : decode M_Mod_fails.2.1 23 = .ok (.iload 4, 2) := by decide +kernel
theorem d_Mod_fails_25 : decode M_Mod_fails.2.1 25 = .ok (.ishr, 1) := by decide +kernel
theorem d_Mod_fails_26 : decode M_Mod_fails.2.1 26 = .ok (.iconst 1, 1) := by decide +kernel
theorem d_Mod_fails_27 : decode M_Mod_fails.2.1 27 = .ok (.iand, 1) := by decide +kernel
theorem d_Mod_fails_28 : decode M_Mod_fails.2.1 28 = .ok (.iconst 1, 1) := by decide +kernel
theorem d_Mod_fails_29 : decode M_Mod_fails.2.1 29 = .ok (.if_icmp .eq 39, 3) := by decide +kernel
theorem d_Mod_fails_68 : decode M_Mod_fails.2.1 68 = .ok (.iinc 4 1, 3) := by decide +kernel
theorem d_Mod_fails_71 : decode M_Mod_fails.2.1 71 = .ok (.goto (-58), 3) := by decide +kernel
theorem d_Mod_fails_32 : decode M_Mod_fails.2.1 32 = .ok (.aload_n 0, 1) := by decide +kernel
theorem d_Mod_fails_33 : decode M_Mod_fails.2.1 33 = .ok (.iload 4, 2) := by decide +kernel
theorem d_Mod_fails_35 : decode M_Mod_fails.2.1 35 = .ok (.invokevirtual 126, 3) := by decide +kernel
theorem d_Mod_fails_38 : decode M_Mod_fails.2.1 38 = .ok (.aload_n 0, 1) := by decide +kernel
theorem d_Mod_fails_39 : decode M_Mod_fails.2.1 39 = .ok (.getfield 18, 3) := by decide +kernel
theorem gf_Mod_18 : GF "HandshakeBindsModel" 18 9 3 := ⟨_, _, _, rfl, by decide, i_Mod, inTB 853 (by decide +kernel) rfl⟩
theorem d_Mod_fails_42 : decode M_Mod_fails.2.1 42 = .ok (.iload 4, 2) := by decide +kernel
theorem d_Mod_fails_44 : decode M_Mod_fails.2.1 44 = .ok (.iaload, 1) := by decide +kernel
theorem d_Mod_fails_45 : decode M_Mod_fails.2.1 45 = .ok (.aload_n 0, 1) := by decide +kernel
theorem d_Mod_fails_46 : decode M_Mod_fails.2.1 46 = .ok (.iload 4, 2) := by decide +kernel
theorem d_Mod_fails_48 : decode M_Mod_fails.2.1 48 = .ok (.iload_n 2, 1) := by decide +kernel
theorem d_Mod_fails_49 : decode M_Mod_fails.2.1 49 = .ok (.invokevirtual 122, 3) := by decide +kernel
theorem d_Mod_fails_52 : decode M_Mod_fails.2.1 52 = .ok (.iadd, 1) := by decide +kernel
theorem d_Mod_fails_53 : decode M_Mod_fails.2.1 53 = .ok (.if_icmp .gt 6, 3) := by decide +kernel
theorem d_Mod_fails_59 : decode M_Mod_fails.2.1 59 = .ok (.iload_n 2, 1) := by decide +kernel
theorem d_Mod_fails_60 : decode M_Mod_fails.2.1 60 = .ok (.iconst 1, 1) := by decide +kernel
theorem d_Mod_fails_61 : decode M_Mod_fails.2.1 61 = .ok (.iload 4, 2) := by decide +kernel
theorem d_Mod_fails_63 : decode M_Mod_fails.2.1 63 = .ok (.ishl, 1) := by decide +kernel
theorem d_Mod_fails_64 : decode M_Mod_fails.2.1 64 = .ok (.ior, 1) := by decide +kernel
theorem d_Mod_fails_65 : decode M_Mod_fails.2.1 65 = .ok (.istore_n 2, 1) := by decide +kernel
theorem d_Mod_fails_66 : decode M_Mod_fails.2.1 66 = .ok (.iconst 1, 1) := by decide +kernel
theorem d_Mod_fails_67 : decode M_Mod_fails.2.1 67 = .ok (.istore_n 3, 1) := by decide +kernel
theorem d_Mod_fails_56 : decode M_Mod_fails.2.1 56 = .ok (.goto 12, 3) := by decide +kernel
def M_Mod_gift : XM := (⟨"HandshakeBindsModel", "gift", "(I)I"⟩, prog_11_method_38_code, 6, (some .int))
theorem d_Mod_gift_0 : decode M_Mod_gift.2.1 0 = .ok (.aload_n 0, 1) := by decide +kernel
theorem d_Mod_gift_1 : decode M_Mod_gift.2.1 1 = .ok (.getfield 18, 3) := by decide +kernel
theorem d_Mod_gift_4 : decode M_Mod_gift.2.1 4 = .ok (.iload_n 1, 1) := by decide +kernel
theorem d_Mod_gift_5 : decode M_Mod_gift.2.1 5 = .ok (.iaload, 1) := by decide +kernel
theorem d_Mod_gift_6 : decode M_Mod_gift.2.1 6 = .ok (.istore_n 2, 1) := by decide +kernel
theorem d_Mod_gift_7 : decode M_Mod_gift.2.1 7 = .ok (.iconst (-1), 1) := by decide +kernel
theorem d_Mod_gift_8 : decode M_Mod_gift.2.1 8 = .ok (.istore_n 3, 1) := by decide +kernel
theorem d_Mod_gift_9 : decode M_Mod_gift.2.1 9 = .ok (.sipush 10000, 3) := by decide +kernel
theorem d_Mod_gift_12 : decode M_Mod_gift.2.1 12 = .ok (.istore 4, 2) := by decide +kernel
theorem d_Mod_gift_14 : decode M_Mod_gift.2.1 14 = .ok (.iload 4, 2) := by decide +kernel
theorem d_Mod_gift_16 : decode M_Mod_gift.2.1 16 = .ok (.iload_n 3, 1) := by decide +kernel
theorem d_Mod_gift_17 : decode M_Mod_gift.2.1 17 = .ok (.isub, 1) := by decide +kernel
theorem d_Mod_gift_18 : decode M_Mod_gift.2.1 18 = .ok (.iconst 1, 1) := by decide +kernel
theorem d_Mod_gift_19 : decode M_Mod_gift.2.1 19 = .ok (.if_icmp .le 47, 3) := by decide +kernel
theorem d_Mod_gift_66 : decode M_Mod_gift.2.1 66 = .ok (.aload_n 0, 1) := by decide +kernel
theorem d_Mod_gift_67 : decode M_Mod_gift.2.1 67 = .ok (.getfield 18, 3) := by decide +kernel
theorem d_Mod_gift_70 : decode M_Mod_gift.2.1 70 = .ok (.iload_n 1, 1) := by decide +kernel
theorem d_Mod_gift_71 : decode M_Mod_gift.2.1 71 = .ok (.iload_n 2, 1) := by decide +kernel
theorem d_Mod_gift_72 : decode M_Mod_gift.2.1 72 = .ok (.iastore, 1) := by decide +kernel
theorem d_Mod_gift_73 : decode M_Mod_gift.2.1 73 = .ok (.iload 4, 2) := by decide +kernel
theorem d_Mod_gift_75 : decode M_Mod_gift.2.1 75 = .ok (.sipush 10000, 3) := by decide +kernel
theorem d_Mod_gift_78 : decode M_Mod_gift.2.1 78 = .ok (.if_icmp .ne 8, 3) := by decide +kernel
theorem d_Mod_gift_86 : decode M_Mod_gift.2.1 86 = .ok (.iload 4, 2) := by decide +kernel
theorem d_Mod_gift_88 : decode M_Mod_gift.2.1 88 = .ok (.ireturn, 1) := by decide +kernel
theorem d_Mod_gift_81 : decode M_Mod_gift.2.1 81 = .ok (.bipush (-5), 2) := by decide +kernel
theorem d_Mod_gift_83 : decode M_Mod_gift.2.1 83 = .ok (.goto 5, 3) := by decide +kernel
theorem d_Mod_gift_22 : decode M_Mod_gift.2.1 22 = .ok (.iload_n 3, 1) := by decide +kernel
theorem d_Mod_gift_23 : decode M_Mod_gift.2.1 23 = .ok (.iload 4, 2) := by decide +kernel
theorem d_Mod_gift_25 : decode M_Mod_gift.2.1 25 = .ok (.iadd, 1) := by decide +kernel
theorem d_Mod_gift_26 : decode M_Mod_gift.2.1 26 = .ok (.iconst 2, 1) := by decide +kernel
theorem d_Mod_gift_27 : decode M_Mod_gift.2.1 27 = .ok (.idiv, 1) := by decide +kernel
theorem d_Mod_gift_28 : decode M_Mod_gift.2.1 28 = .ok (.istore 5, 2) := by decide +kernel
theorem d_Mod_gift_30 : decode M_Mod_gift.2.1 30 = .ok (.aload_n 0, 1) := by decide +kernel
theorem d_Mod_gift_31 : decode M_Mod_gift.2.1 31 = .ok (.getfield 18, 3) := by decide +kernel
theorem d_Mod_gift_34 : decode M_Mod_gift.2.1 34 = .ok (.iload_n 1, 1) := by decide +kernel
theorem d_Mod_gift_35 : decode M_Mod_gift.2.1 35 = .ok (.iload_n 2, 1) := by decide +kernel
theorem d_Mod_gift_36 : decode M_Mod_gift.2.1 36 = .ok (.iload 5, 2) := by decide +kernel
theorem d_Mod_gift_38 : decode M_Mod_gift.2.1 38 = .ok (.iadd, 1) := by decide +kernel
theorem d_Mod_gift_39 : decode M_Mod_gift.2.1 39 = .ok (.iastore, 1) := by decide +kernel
theorem d_Mod_gift_40 : decode M_Mod_gift.2.1 40 = .ok (.aload_n 0, 1) := by decide +kernel
theorem d_Mod_gift_41 : decode M_Mod_gift.2.1 41 = .ok (.iconst 0, 1) := by decide +kernel
theorem d_Mod_gift_42 : decode M_Mod_gift.2.1 42 = .ok (.invokevirtual 134, 3) := by decide +kernel
theorem ln_Mod_134 : Cond.methodLink "HandshakeBindsModel" 134 M_Mod_fails.1 ∈ TB := inTB 1018 (by decide +kernel) rfl
theorem lk_Mod_fails : LVt M_Mod_fails 1 := ⟨⟨inTB 72 (by decide +kernel) rfl, inTB 1021 (by decide +kernel) rfl, ⟨by decide, by decide, by decide +kernel⟩, by decide⟩, inTB 1020 (by decide +kernel) rfl, inTB 24 (by decide +kernel) rfl⟩
theorem d_Mod_gift_45 : decode M_Mod_gift.2.1 45 = .ok (.iload_n 1, 1) := by decide +kernel
theorem d_Mod_gift_46 : decode M_Mod_gift.2.1 46 = .ok (.ishr, 1) := by decide +kernel
theorem d_Mod_gift_47 : decode M_Mod_gift.2.1 47 = .ok (.iconst 1, 1) := by decide +kernel
theorem d_Mod_gift_48 : decode M_Mod_gift.2.1 48 = .ok (.iand, 1) := by decide +kernel
theorem d_Mod_gift_49 : decode M_Mod_gift.2.1 49 = .ok (.iconst 1, 1) := by decide +kernel
theorem d_Mod_gift_50 : decode M_Mod_gift.2.1 50 = .ok (.if_icmp .ne 9, 3) := by decide +kernel
theorem d_Mod_gift_59 : decode M_Mod_gift.2.1 59 = .ok (.iload 5, 2) := by decide +kernel
theorem d_Mod_gift_61 : decode M_Mod_gift.2.1 61 = .ok (.istore 4, 2) := by decide +kernel
theorem d_Mod_gift_63 : decode M_Mod_gift.2.1 63 = .ok (.goto (-49), 3) := by decide +kernel
theorem d_Mod_gift_53 : decode M_Mod_gift.2.1 53 = .ok (.iload 5, 2) := by decide +kernel
theorem d_Mod_gift_55 : decode M_Mod_gift.2.1 55 = .ok (.istore_n 3, 1) := by decide +kernel
theorem d_Mod_gift_56 : decode M_Mod_gift.2.1 56 = .ok (.goto 7, 3) := by decide +kernel
theorem c_Mod_within (X : Xn) (v lo hi : Int32) : Does X 1 M_Mod_within [.int v, .int lo, .int hi] ([]) 0 0 (fun (vv : Option Value) (ww : va_W) => vv = some (.int (bI (inR v lo hi))) ∧ ww = []) := by
  generalize hQ : (fun (vv : Option Value) (ww : va_W) => vv = some (.int (bI (inR v lo hi))) ∧ ww = []) = Q
  refine Does.go rfl (Nat.le_of_ble_eq_true rfl) [some (.int v), some (.int lo), some (.int hi)] 0 rfl ?_
  refine r_iload_n rfl 1 rfl d_Mod_within_0 ?_
  refine r_iload_n rfl 2 rfl d_Mod_within_1 ?_
  refine r_icmp_lt 5 14 rfl rfl d_Mod_within_2 (fun h2 => ?_) (fun h2 => ?_)
  · refine r_iconst (nI 0) rfl 15 rfl d_Mod_within_14 ?_
    exact r_zret rfl (rfl) (Nat.zero_le _) (Nat.zero_le _) d_Mod_within_15 (by rw [← hQ]; exact ⟨by rw [inR_lt h2]; rfl, rfl⟩)
  · refine r_iload_n rfl 6 rfl d_Mod_within_5 ?_
    refine r_iload_n rfl 7 rfl d_Mod_within_6 ?_
    refine r_icmp_gt 10 14 rfl rfl d_Mod_within_7 (fun h7 => ?_) (fun h7 => ?_)
    · refine r_iconst (nI 0) rfl 15 rfl d_Mod_within_14 ?_
      exact r_zret rfl (rfl) (Nat.zero_le _) (Nat.zero_le _) d_Mod_within_15 (by rw [← hQ]; exact ⟨by rw [inR_gt h7]; rfl, rfl⟩)
    · refine r_iconst (nI 1) rfl 11 rfl d_Mod_within_10 ?_
      refine r_goto 15 rfl d_Mod_within_11 ?_
      exact r_zret rfl (rfl) (Nat.zero_le _) (Nat.zero_le _) d_Mod_within_15 (by rw [← hQ]; exact ⟨by rw [inR_in h2 h7]; rfl, rfl⟩)
theorem c_Mod_isOne (X : Xn) (a ν : Nat → Nat) (σ : Nat → Nat → Int32) (τ : Nat → Int64) (p : Int32) : Does X 2 M_Mod_isOne [.ref (a 0), .int p] (MW X a ν σ τ) 0 0 (fun (vv : Option Value) (ww : va_W) => vv = some (.int (bI (isB (ν 0) p))) ∧ ww = MW X a ν σ τ) := by
  generalize hQ : (fun (vv : Option Value) (ww : va_W) => vv = some (.int (bI (isB (ν 0) p))) ∧ ww = MW X a ν σ τ) = Q
  refine Does.go rfl (Nat.le_of_ble_eq_true rfl) [some (.ref (a 0)), some (.int p)] 0 rfl ?_
  refine r_iload_n rfl 1 rfl d_Mod_isOne_0 ?_
  refine r_iconst (nI 0) rfl 2 rfl d_Mod_isOne_1 ?_
  refine r_aload_n rfl 3 rfl d_Mod_isOne_2 ?_
  refine r_getf (v := .int (nI (ν 0))) gf_Mod_111 0 rfl rfl 6 rfl d_Mod_isOne_3 ?_
  refine r_iconst (nI 1) rfl 7 rfl d_Mod_isOne_6 ?_
  refine r_isub 8 rfl d_Mod_isOne_7 ?_
  refine r_callS1 (st2 := [.int (bI (inR p (nI 0) ((nI (ν 0)) - (nI 1))))]) (w2 := MW X a ν σ τ) lk_Mod_within ln_Mod_114 (c_Mod_within X p (nI 0) ((nI (ν 0)) - (nI 1))) (by decide) rfl rfl (Nat.le_of_ble_eq_true rfl) (Nat.le_of_ble_eq_true rfl) (Nat.le_of_ble_eq_true rfl) [] rfl rfl rfl rfl rfl 11 rfl d_Mod_isOne_8 ?_
  exact r_zret rfl (bI_nar _) (Nat.zero_le _) (Nat.zero_le _) d_Mod_isOne_11 (by rw [← hQ]; exact ⟨rfl, rfl⟩)
theorem c_Mod_are (X : Xn) (a ν : Nat → Nat) (σ : Nat → Nat → Int32) (τ : Nat → Int64) (p q : Int32) : Does X 3 M_Mod_are [.ref (a 0), .int p, .int q] (MW X a ν σ τ) 0 0 (fun (vv : Option Value) (ww : va_W) => vv = some (.int (bI (isB (ν 0) p && isB (ν 0) q))) ∧ ww = MW X a ν σ τ) := by
  generalize hQ : (fun (vv : Option Value) (ww : va_W) => vv = some (.int (bI (isB (ν 0) p && isB (ν 0) q))) ∧ ww = MW X a ν σ τ) = Q
  refine Does.go rfl (Nat.le_of_ble_eq_true rfl) [some (.ref (a 0)), some (.int p), some (.int q)] 0 rfl ?_
  refine r_aload_n rfl 1 rfl d_Mod_are_0 ?_
  refine r_iload_n rfl 2 rfl d_Mod_are_1 ?_
  refine r_callVA1 (st2 := [.int (bI (isB (ν 0) p))]) (w2 := MW X a ν σ τ) lk_Mod_isOne ln_Mod_118 (c_Mod_isOne X a ν σ τ p) (by decide) rfl rfl (Nat.le_of_ble_eq_true rfl) (Nat.le_of_ble_eq_true rfl) (Nat.le_of_ble_eq_true rfl) 0 rfl rfl rfl rfl 5 rfl d_Mod_are_2 ?_
  refine r_if_eqB 8 20 rfl rfl d_Mod_are_5 (fun h5 => ?_) (fun h5 => ?_)
  · refine r_iconst (nI 0) rfl 21 rfl d_Mod_are_20 ?_
    exact r_zret rfl (rfl) (Nat.zero_le _) (Nat.zero_le _) d_Mod_are_21 (by rw [← hQ]; exact ⟨by simp [bI, nI_0, nI_one, h5], rfl⟩)
  · refine r_aload_n rfl 9 rfl d_Mod_are_8 ?_
    refine r_iload_n rfl 10 rfl d_Mod_are_9 ?_
    refine r_callVA1 (st2 := [.int (bI (isB (ν 0) q))]) (w2 := MW X a ν σ τ) lk_Mod_isOne ln_Mod_118 (c_Mod_isOne X a ν σ τ q) (by decide) rfl rfl (Nat.le_of_ble_eq_true rfl) (Nat.le_of_ble_eq_true rfl) (Nat.le_of_ble_eq_true rfl) 0 rfl rfl rfl rfl 13 rfl d_Mod_are_10 ?_
    refine r_if_eqB 16 20 rfl rfl d_Mod_are_13 (fun h13 => ?_) (fun h13 => ?_)
    · refine r_iconst (nI 0) rfl 21 rfl d_Mod_are_20 ?_
      exact r_zret rfl (rfl) (Nat.zero_le _) (Nat.zero_le _) d_Mod_are_21 (by rw [← hQ]; exact ⟨by simp [bI, nI_0, nI_one, h5, h13], rfl⟩)
    · refine r_iconst (nI 1) rfl 17 rfl d_Mod_are_16 ?_
      refine r_goto 21 rfl d_Mod_are_17 ?_
      exact r_zret rfl (rfl) (Nat.zero_le _) (Nat.zero_le _) d_Mod_are_21 (by rw [← hQ]; exact ⟨by simp [bI, nI_0, nI_one, h5, h13], rfl⟩)
theorem c_Mod_isSqueeze (X : Xn) (s : Int32) : Does X 2 M_Mod_isSqueeze [.int s] ([]) 0 0 (fun (vv : Option Value) (ww : va_W) => vv = some (.int (bI (inR s (nI 0) (nI 99)))) ∧ ww = []) := by
  generalize hQ : (fun (vv : Option Value) (ww : va_W) => vv = some (.int (bI (inR s (nI 0) (nI 99)))) ∧ ww = []) = Q
  refine Does.go rfl (Nat.le_of_ble_eq_true rfl) [some (.int s)] 0 rfl ?_
  refine r_iload_n rfl 1 rfl d_Mod_isSqueeze_0 ?_
  refine r_iconst (nI 0) rfl 2 rfl d_Mod_isSqueeze_1 ?_
  refine r_bipush (nI 99) rfl 4 rfl d_Mod_isSqueeze_2 ?_
  refine r_callS1 (st2 := [.int (bI (inR s (nI 0) (nI 99)))]) (w2 := []) lk_Mod_within ln_Mod_114 (c_Mod_within X s (nI 0) (nI 99)) (by decide) rfl rfl (Nat.le_of_ble_eq_true rfl) (Nat.le_of_ble_eq_true rfl) (Nat.le_of_ble_eq_true rfl) [] rfl rfl rfl rfl rfl 7 rfl d_Mod_isSqueeze_4 ?_
  exact r_zret rfl (bI_nar _) (Nat.zero_le _) (Nat.zero_le _) d_Mod_isSqueeze_7 (by rw [← hQ]; exact ⟨rfl, rfl⟩)
theorem c_Mod_owes (X : Xn) (a ν : Nat → Nat) (σ : Nat → Nat → Int32) (τ : Nat → Int64) (hn6 : ν 0 ≤ 6) (p : Nat) (hp : p < 6) : Does X 1 M_Mod_owes [.ref (a 0), .int (nI p)] (MW X a ν σ τ) 0 0 (fun (vv : Option Value) (ww : va_W) => vv = some (.int (osum (σ 5) p (ν 0))) ∧ ww = MW X a ν σ τ) := by
  generalize hQ : (fun (vv : Option Value) (ww : va_W) => vv = some (.int (osum (σ 5) p (ν 0))) ∧ ww = MW X a ν σ τ) = Q
  refine Does.go rfl (Nat.le_of_ble_eq_true rfl) [some (.ref (a 0)), some (.int (nI p)), none, none] 2 rfl ?_
  refine r_iconst (nI 0) rfl 1 rfl d_Mod_owes_0 ?_
  refine r_istore_n (ls2 := [some (.ref (a 0)), some (.int (nI p)), some (.int (nI 0)), none]) 2 rfl d_Mod_owes_1 (by decide) rfl rfl ?_
  refine r_iconst (nI 0) rfl 3 rfl d_Mod_owes_2 ?_
  refine r_istore_n (ls2 := [some (.ref (a 0)), some (.int (nI p)), some (.int (nI 0)), some (.int (nI 0))]) 4 rfl d_Mod_owes_3 (by decide) rfl rfl ?_
  have L4_1 : ∀ (f : Nat) (k : Nat), (k ≤ ν 0) → ν 0 - k < f → Runs X 1 M_Mod_owes 0 0 Q 4 [some (.ref (a 0)), some (.int (nI p)), some (.int (osum (σ 5) p k)), some (.int (nI k))] [] 0 0 (MW X a ν σ τ) := by
    intro f
    induction f with
    | zero => intro k hk hmu; exact absurd hmu (Nat.not_lt_zero _)
    | succ f ih2 =>
      intro k hk hmu
      refine r_iload_n rfl 5 rfl d_Mod_owes_4 ?_
      refine r_aload_n rfl 6 rfl d_Mod_owes_5 ?_
      refine r_getf (v := .int (nI (ν 0))) gf_Mod_111 0 rfl rfl 9 rfl d_Mod_owes_6 ?_
      refine r_icmp_geN k (ν 0) (by omega) (by omega) 12 32 rfl rfl d_Mod_owes_9 (fun h9 => ?_) (fun h9 => ?_)
      · refine r_iload_n rfl 33 rfl d_Mod_owes_32 ?_
        exact r_iret rfl (Nat.zero_le _) (Nat.zero_le _) d_Mod_owes_33 (by rw [← hQ]; exact ⟨by rw [show k = ν 0 by omega], rfl⟩)
      · refine r_iload_n rfl 13 rfl d_Mod_owes_12 ?_
        refine r_aload_n rfl 14 rfl d_Mod_owes_13 ?_
        refine r_getf (v := .ref (a 5)) gf_Mod_24 0 rfl rfl 17 rfl d_Mod_owes_14 ?_
        refine r_bipush (nI 6) rfl 19 rfl d_Mod_owes_17 ?_
        refine r_iload_n rfl 20 rfl d_Mod_owes_19 ?_
        refine r_imul 21 rfl d_Mod_owes_20 ?_
        refine r_topi (nI (6 * p)) (pk_mul _ _) ?_
        refine r_iload_n rfl 22 rfl d_Mod_owes_21 ?_
        refine r_iadd 23 rfl d_Mod_owes_22 ?_
        refine r_topi (nI ((6 * p) + k)) (nI_add _ _) ?_
        refine r_iald 5 rfl ((6 * p) + k) rfl (by omega) (by omega) 24 rfl d_Mod_owes_23 ?_
        refine r_iadd 25 rfl d_Mod_owes_24 ?_
        refine r_istore_n (ls2 := [some (.ref (a 0)), some (.int (nI p)), some (.int ((osum (σ 5) p k) + (σ 5 ((6 * p) + k)))), some (.int (nI k))]) 26 rfl d_Mod_owes_25 (by decide) rfl rfl ?_
        refine r_iinc (ls2 := [some (.ref (a 0)), some (.int (nI p)), some (.int ((osum (σ 5) p k) + (σ 5 ((6 * p) + k)))), some (.int (nI (k + 1)))]) (nI (k + 1)) rfl (nI_1 _) 29 rfl d_Mod_owes_26 (by decide) rfl rfl ?_
        refine r_goto 4 rfl d_Mod_owes_29 ?_
        exact ih2 (k + 1) (by omega) (by omega)
  exact L4_1 _ 0 (by omega) (Nat.lt_succ_self _)
theorem c_Mod_owed (X : Xn) (a ν : Nat → Nat) (σ : Nat → Nat → Int32) (τ : Nat → Int64) (hn6 : ν 0 ≤ 6) (p S : Nat) (hp : p < 6) (hS : S < 64) : Does X 1 M_Mod_owed [.ref (a 0), .int (nI p), .int (nI S)] (MW X a ν σ τ) 0 0 (fun (vv : Option Value) (ww : va_W) => vv = some (.int (dsum (σ 5) S p (ν 0))) ∧ ww = MW X a ν σ τ) := by
  generalize hQ : (fun (vv : Option Value) (ww : va_W) => vv = some (.int (dsum (σ 5) S p (ν 0))) ∧ ww = MW X a ν σ τ) = Q
  refine Does.go rfl (Nat.le_of_ble_eq_true rfl) [some (.ref (a 0)), some (.int (nI p)), some (.int (nI S)), none, none] 2 rfl ?_
  refine r_iconst (nI 0) rfl 1 rfl d_Mod_owed_0 ?_
  refine r_istore_n (ls2 := [some (.ref (a 0)), some (.int (nI p)), some (.int (nI S)), some (.int (nI 0)), none]) 2 rfl d_Mod_owed_1 (by decide) rfl rfl ?_
  refine r_iconst (nI 0) rfl 3 rfl d_Mod_owed_2 ?_
  refine r_istore (ls2 := [some (.ref (a 0)), some (.int (nI p)), some (.int (nI S)), some (.int (nI 0)), some (.int (nI 0))]) 5 rfl d_Mod_owed_3 (by decide) rfl rfl ?_
  have L5_1 : ∀ (f : Nat) (k : Nat), (k ≤ ν 0) → ν 0 - k < f → Runs X 1 M_Mod_owed 0 0 Q 5 [some (.ref (a 0)), some (.int (nI p)), some (.int (nI S)), some (.int (dsum (σ 5) S p k)), some (.int (nI k))] [] 0 0 (MW X a ν σ τ) := by
    intro f
    induction f with
    | zero => intro k hk hmu; exact absurd hmu (Nat.not_lt_zero _)
    | succ f ih2 =>
      intro k hk hmu
      refine r_iload rfl 7 rfl d_Mod_owed_5 ?_
      refine r_aload_n rfl 8 rfl d_Mod_owed_7 ?_
      refine r_getf (v := .int (nI (ν 0))) gf_Mod_111 0 rfl rfl 11 rfl d_Mod_owed_8 ?_
      refine r_icmp_geN k (ν 0) (by omega) (by omega) 14 44 rfl rfl d_Mod_owed_11 (fun h11 => ?_) (fun h11 => ?_)
      · refine r_iload_n rfl 45 rfl d_Mod_owed_44 ?_
        exact r_iret rfl (Nat.zero_le _) (Nat.zero_le _) d_Mod_owed_45 (by rw [← hQ]; exact ⟨by rw [show k = ν 0 by omega], rfl⟩)
      · refine r_iload_n rfl 15 rfl d_Mod_owed_14 ?_
        refine r_iload rfl 17 rfl d_Mod_owed_15 ?_
        refine r_ishr 18 rfl d_Mod_owed_17 ?_
        refine r_topi (nI (S >>> k)) (nI_shr (by omega) (by omega)) ?_
        refine r_iconst (nI 1) rfl 19 rfl d_Mod_owed_18 ?_
        refine r_iand 20 rfl d_Mod_owed_19 ?_
        refine r_topi (nI ((S >>> k) &&& 1)) (nx_and _ _) ?_
        refine r_if_neN ((S >>> k) &&& 1) (b_lt31 _) 23 38 rfl rfl d_Mod_owed_20 (fun h20 => ?_) (fun h20 => ?_)
        · refine r_iinc (ls2 := [some (.ref (a 0)), some (.int (nI p)), some (.int (nI S)), some (.int (dsum (σ 5) S p k)), some (.int (nI (k + 1)))]) (nI (k + 1)) rfl (nI_1 _) 41 rfl d_Mod_owed_38 (by decide) rfl rfl ?_
          refine r_goto 5 rfl d_Mod_owed_41 ?_
          refine Runs.cast (ih2 (k + 1) (by omega) (by omega)) (by first | (rw [dsum, if_pos h20]; done) | (rw [dsum, if_neg h20]; done)) rfl (rfl)
        · refine r_iload_n rfl 24 rfl d_Mod_owed_23 ?_
          refine r_aload_n rfl 25 rfl d_Mod_owed_24 ?_
          refine r_getf (v := .ref (a 5)) gf_Mod_24 0 rfl rfl 28 rfl d_Mod_owed_25 ?_
          refine r_bipush (nI 6) rfl 30 rfl d_Mod_owed_28 ?_
          refine r_iload rfl 32 rfl d_Mod_owed_30 ?_
          refine r_imul 33 rfl d_Mod_owed_32 ?_
          refine r_topi (nI (6 * k)) (pk_mul _ _) ?_
          refine r_iload_n rfl 34 rfl d_Mod_owed_33 ?_
          refine r_iadd 35 rfl d_Mod_owed_34 ?_
          refine r_topi (nI ((6 * k) + p)) (nI_add _ _) ?_
          refine r_iald 5 rfl ((6 * k) + p) rfl (by omega) (by omega) 36 rfl d_Mod_owed_35 ?_
          refine r_iadd 37 rfl d_Mod_owed_36 ?_
          refine r_istore_n (ls2 := [some (.ref (a 0)), some (.int (nI p)), some (.int (nI S)), some (.int ((dsum (σ 5) S p k) + (σ 5 ((6 * k) + p)))), some (.int (nI k))]) 38 rfl d_Mod_owed_37 (by decide) rfl rfl ?_
          refine r_iinc (ls2 := [some (.ref (a 0)), some (.int (nI p)), some (.int (nI S)), some (.int ((dsum (σ 5) S p k) + (σ 5 ((6 * k) + p)))), some (.int (nI (k + 1)))]) (nI (k + 1)) rfl (nI_1 _) 41 rfl d_Mod_owed_38 (by decide) rfl rfl ?_
          refine r_goto 5 rfl d_Mod_owed_41 ?_
          refine Runs.cast (ih2 (k + 1) (by omega) (by omega)) (by first | (rw [dsum, if_pos h20]; done) | (rw [dsum, if_neg h20]; done)) rfl (rfl)
  exact L5_1 _ 0 (by omega) (Nat.lt_succ_self _)
theorem c_Mod_balance (X : Xn) (a ν : Nat → Nat) (σ : Nat → Nat → Int32) (τ : Nat → Int64) (hn6 : ν 0 ≤ 6) (p : Nat) (hp : p < 6) : Does X 2 M_Mod_balance [.ref (a 0), .int (nI p)] (MW X a ν σ τ) 0 0 (fun (vv : Option Value) (ww : va_W) => vv = some (.int (bal (ν 0) (σ 5) p)) ∧ ww = MW X a ν σ τ) := by
  generalize hQ : (fun (vv : Option Value) (ww : va_W) => vv = some (.int (bal (ν 0) (σ 5) p)) ∧ ww = MW X a ν σ τ) = Q
  refine Does.go rfl (Nat.le_of_ble_eq_true rfl) [some (.ref (a 0)), some (.int (nI p))] 0 rfl ?_
  refine r_aload_n rfl 1 rfl d_Mod_balance_0 ?_
  refine r_iload_n rfl 2 rfl d_Mod_balance_1 ?_
  refine r_iconst (nI 0) rfl 3 rfl d_Mod_balance_2 ?_
  refine r_callVA1 (st2 := [.int (dsum (σ 5) 0 p (ν 0))]) (w2 := MW X a ν σ τ) lk_Mod_owed ln_Mod_122 (c_Mod_owed X a ν σ τ (by first | omega | exact hn6) p 0 (by omega) (by first | omega | assumption)) (by decide) rfl rfl (Nat.le_of_ble_eq_true rfl) (Nat.le_of_ble_eq_true rfl) (Nat.le_of_ble_eq_true rfl) 0 rfl rfl rfl rfl 6 rfl d_Mod_balance_3 ?_
  refine r_aload_n rfl 7 rfl d_Mod_balance_6 ?_
  refine r_iload_n rfl 8 rfl d_Mod_balance_7 ?_
  refine r_callVA1 (st2 := [.int (osum (σ 5) p (ν 0)), .int (dsum (σ 5) 0 p (ν 0))]) (w2 := MW X a ν σ τ) lk_Mod_owes ln_Mod_126 (c_Mod_owes X a ν σ τ (by first | omega | exact hn6) p (by omega)) (by decide) rfl rfl (Nat.le_of_ble_eq_true rfl) (Nat.le_of_ble_eq_true rfl) (Nat.le_of_ble_eq_true rfl) 0 rfl rfl rfl rfl 11 rfl d_Mod_balance_8 ?_
  refine r_isub 12 rfl d_Mod_balance_11 ?_
  exact r_iret rfl (Nat.zero_le _) (Nat.zero_le _) d_Mod_balance_12 (by rw [← hQ]; exact ⟨rfl, rfl⟩)
theorem c_Mod_fails (X : Xn) (a ν : Nat → Nat) (σ : Nat → Nat → Int32) (τ : Nat → Int64) (hn6 : ν 0 ≤ 6) (S0 : Nat) (hS0 : S0 < 64) : Does X 2 M_Mod_fails [.ref (a 0), .int (nI S0)] (MW X a ν σ τ) 0 0 (fun (vv : Option Value) (ww : va_W) => vv = some (.int (nI (fails (ν 0) (σ 3) (σ 5) S0))) ∧ ww = MW X a ν σ τ) := by
  generalize hQ : (fun (vv : Option Value) (ww : va_W) => vv = some (.int (nI (fails (ν 0) (σ 3) (σ 5) S0))) ∧ ww = MW X a ν σ τ) = Q
  refine Does.go rfl (Nat.le_of_ble_eq_true rfl) [some (.ref (a 0)), some (.int (nI S0)), none, none, none] 3 rfl ?_
  refine r_iload_n rfl 1 rfl d_Mod_fails_0 ?_
  refine r_istore_n (ls2 := [some (.ref (a 0)), some (.int (nI S0)), some (.int (nI S0)), none, none]) 2 rfl d_Mod_fails_1 (by decide) rfl rfl ?_
  refine r_iconst (nI 1) rfl 3 rfl d_Mod_fails_2 ?_
  refine r_istore_n (ls2 := [some (.ref (a 0)), some (.int (nI S0)), some (.int (nI S0)), some (.int (nI 1)), none]) 4 rfl d_Mod_fails_3 (by decide) rfl rfl ?_
  have L4_1 : ∀ (f : Nat) (S : Nat) (b : Bool) (m : Nat), (S < 64) → (fails (ν 0) (σ 3) (σ 5) S0 = (if b = true then fl (ν 0) (σ 3) (σ 5) m S else S)) → (b = true → cz S < m) → m < f → Runs X 2 M_Mod_fails 0 0 Q 4 [some (.ref (a 0)), some (.int (nI S0)), some (.int (nI S)), some (.int (bI b)), none] [] 0 0 (MW X a ν σ τ) := by
    intro f
    induction f with
    | zero => intro S b m hS hi hz hmu; exact absurd hmu (Nat.not_lt_zero _)
    | succ f ih2 =>
      intro S b m hS hi hz hmu
      refine r_iload_n rfl 5 rfl d_Mod_fails_4 ?_
      refine r_if_eqB 8 77 rfl rfl d_Mod_fails_5 (fun h5 => ?_) (fun h5 => ?_)
      · refine r_iload_n rfl 78 rfl d_Mod_fails_77 ?_
        exact r_iret rfl (Nat.zero_le _) (Nat.zero_le _) d_Mod_fails_78 (by rw [← hQ]; exact ⟨by rw [hi, h5]; rfl, rfl⟩)
      · subst h5
        obtain ⟨m, rfl⟩ : ∃ m2, m = m2 + 1 := ⟨m - 1, by have := hz rfl; omega⟩
        refine r_iconst (nI 0) rfl 9 rfl d_Mod_fails_8 ?_
        refine r_istore_n (ls2 := [some (.ref (a 0)), some (.int (nI S0)), some (.int (nI S)), some (.int (nI 0)), none]) 10 rfl d_Mod_fails_9 (by decide) rfl rfl ?_
        refine r_iconst (nI 0) rfl 11 rfl d_Mod_fails_10 ?_
        refine r_istore (ls2 := [some (.ref (a 0)), some (.int (nI S0)), some (.int (nI S)), some (.int (nI 0)), some (.int (nI 0))]) 13 rfl d_Mod_fails_11 (by decide) rfl rfl ?_
        have L13_3 : ∀ (f : Nat) (k : Nat), (k ≤ ν 0) → ν 0 - k < f → Runs X 2 M_Mod_fails 0 0 Q 13 [some (.ref (a 0)), some (.int (nI S0)), some (.int (nI (fr (ν 0) (σ 3) (σ 5) S k))), some (.int (bI (fm (ν 0) (σ 3) (σ 5) S k))), some (.int (nI k))] [] 0 0 (MW X a ν σ τ) := by
          intro f
          induction f with
          | zero => intro k hk hmu; exact absurd hmu (Nat.not_lt_zero _)
          | succ f ih4 =>
            intro k hk hmu
            refine r_iload rfl 15 rfl d_Mod_fails_13 ?_
            refine r_aload_n rfl 16 rfl d_Mod_fails_15 ?_
            refine r_getf (v := .int (nI (ν 0))) gf_Mod_111 0 rfl rfl 19 rfl d_Mod_fails_16 ?_
            refine r_icmp_geN k (ν 0) (by omega) (by omega) 22 74 rfl rfl d_Mod_fails_19 (fun h19 => ?_) (fun h19 => ?_)
            · refine r_goto 4 rfl d_Mod_fails_74 ?_
              refine r_forget (ls2 := [some (.ref (a 0)), some (.int (nI S0)), some (.int (nI (fr (ν 0) (σ 3) (σ 5) S k))), some (.int (bI (fm (ν 0) (σ 3) (σ 5) S k))), none]) 4 rfl ?_
              refine Runs.cast (ih2 (fr (ν 0) (σ 3) (σ 5) S (ν 0)) (fm (ν 0) (σ 3) (σ 5) S (ν 0)) m (fr_lt hS hn6) (by rw [hi]; simp only [fl, if_true]) (fun hb => Nat.lt_of_lt_of_le ((fr_props hS _ hn6).2.2 hb) (Nat.le_of_lt_succ (hz rfl))) (by omega)) (by rw [show k = ν 0 by omega]) rfl (rfl)
            · refine r_iload_n rfl 23 rfl d_Mod_fails_22 ?_
              refine r_iload rfl 25 rfl d_Mod_fails_23 ?_
              refine r_ishr 26 rfl d_Mod_fails_25 ?_
              refine r_topi (nI ((fr (ν 0) (σ 3) (σ 5) S k) >>> k)) (nI_shr (Nat.lt_trans (fr_lt hS (by omega)) (by decide)) (by omega)) ?_
              refine r_iconst (nI 1) rfl 27 rfl d_Mod_fails_26 ?_
              refine r_iand 28 rfl d_Mod_fails_27 ?_
              refine r_topi (nI (((fr (ν 0) (σ 3) (σ 5) S k) >>> k) &&& 1)) (nx_and _ _) ?_
              refine r_iconst (nI 1) rfl 29 rfl d_Mod_fails_28 ?_
              refine r_icmp_eqN (((fr (ν 0) (σ 3) (σ 5) S k) >>> k) &&& 1) 1 (b_lt31 _) (by omega) 32 68 rfl rfl d_Mod_fails_29 (fun h29 => ?_) (fun h29 => ?_)
              · refine r_iinc (ls2 := [some (.ref (a 0)), some (.int (nI S0)), some (.int (nI (fr (ν 0) (σ 3) (σ 5) S k))), some (.int (bI (fm (ν 0) (σ 3) (σ 5) S k))), some (.int (nI (k + 1)))]) (nI (k + 1)) rfl (nI_1 _) 71 rfl d_Mod_fails_68 (by decide) rfl rfl ?_
                refine r_goto 13 rfl d_Mod_fails_71 ?_
                refine Runs.cast (ih4 (k + 1) (by omega) (by omega)) (by rw [fr, fm, if_neg (fun z => absurd (z.1.symm.trans h29) (by decide)), if_neg (fun z => absurd (z.1.symm.trans h29) (by decide))]) rfl (rfl)
              · have hb29 := b0 h29
                refine r_aload_n rfl 33 rfl d_Mod_fails_32 ?_
                refine r_iload rfl 35 rfl d_Mod_fails_33 ?_
                refine r_callVA1 (st2 := [.int (osum (σ 5) k (ν 0))]) (w2 := MW X a ν σ τ) lk_Mod_owes ln_Mod_126 (c_Mod_owes X a ν σ τ (by first | omega | exact hn6) k (by omega)) (by decide) rfl rfl (Nat.le_of_ble_eq_true rfl) (Nat.le_of_ble_eq_true rfl) (Nat.le_of_ble_eq_true rfl) 0 rfl rfl rfl rfl 38 rfl d_Mod_fails_35 ?_
                refine r_aload_n rfl 39 rfl d_Mod_fails_38 ?_
                refine r_getf (v := .ref (a 3)) gf_Mod_18 0 rfl rfl 42 rfl d_Mod_fails_39 ?_
                refine r_iload rfl 44 rfl d_Mod_fails_42 ?_
                refine r_iald 3 rfl k rfl (by omega) (by omega) 45 rfl d_Mod_fails_44 ?_
                refine r_aload_n rfl 46 rfl d_Mod_fails_45 ?_
                refine r_iload rfl 48 rfl d_Mod_fails_46 ?_
                refine r_iload_n rfl 49 rfl d_Mod_fails_48 ?_
                have hfr := fr_lt (n := ν 0) (pu := σ 3) (de := σ 5) (k := k) hS (by omega)
                refine r_callVA1 (st2 := [.int (dsum (σ 5) (fr (ν 0) (σ 3) (σ 5) S k) k (ν 0)), .int (σ 3 k), .int (osum (σ 5) k (ν 0))]) (w2 := MW X a ν σ τ) lk_Mod_owed ln_Mod_122 (c_Mod_owed X a ν σ τ (by first | omega | exact hn6) k (fr (ν 0) (σ 3) (σ 5) S k) (by omega) (by first | omega | assumption)) (by decide) rfl rfl (Nat.le_of_ble_eq_true rfl) (Nat.le_of_ble_eq_true rfl) (Nat.le_of_ble_eq_true rfl) 0 rfl rfl rfl rfl 52 rfl d_Mod_fails_49 ?_
                refine r_iadd 53 rfl d_Mod_fails_52 ?_
                refine r_icmp_gt 56 59 rfl rfl d_Mod_fails_53 (fun h53 => ?_) (fun h53 => ?_)
                · have h53 : cant (ν 0) (σ 3) (σ 5) (fr (ν 0) (σ 3) (σ 5) S k) k = true := by simp [cant]; exact h53
                  refine r_iload_n rfl 60 rfl d_Mod_fails_59 ?_
                  refine r_iconst (nI 1) rfl 61 rfl d_Mod_fails_60 ?_
                  refine r_iload rfl 63 rfl d_Mod_fails_61 ?_
                  refine r_ishl 64 rfl d_Mod_fails_63 ?_
                  refine r_topi (nI (1 <<< k)) (nI_shl (by omega) (one_shl (by omega))) ?_
                  refine r_ior 65 rfl d_Mod_fails_64 ?_
                  refine r_topi (nI ((fr (ν 0) (σ 3) (σ 5) S k) ||| (1 <<< k))) (nx_or _ _) ?_
                  refine r_istore_n (ls2 := [some (.ref (a 0)), some (.int (nI S0)), some (.int (nI ((fr (ν 0) (σ 3) (σ 5) S k) ||| (1 <<< k)))), some (.int (bI (fm (ν 0) (σ 3) (σ 5) S k))), some (.int (nI k))]) 66 rfl d_Mod_fails_65 (by decide) rfl rfl ?_
                  refine r_iconst (nI 1) rfl 67 rfl d_Mod_fails_66 ?_
                  refine r_istore_n (ls2 := [some (.ref (a 0)), some (.int (nI S0)), some (.int (nI ((fr (ν 0) (σ 3) (σ 5) S k) ||| (1 <<< k)))), some (.int (nI 1)), some (.int (nI k))]) 68 rfl d_Mod_fails_67 (by decide) rfl rfl ?_
                  refine r_iinc (ls2 := [some (.ref (a 0)), some (.int (nI S0)), some (.int (nI ((fr (ν 0) (σ 3) (σ 5) S k) ||| (1 <<< k)))), some (.int (nI 1)), some (.int (nI (k + 1)))]) (nI (k + 1)) rfl (nI_1 _) 71 rfl d_Mod_fails_68 (by decide) rfl rfl ?_
                  refine r_goto 13 rfl d_Mod_fails_71 ?_
                  refine Runs.cast (ih4 (k + 1) (by omega) (by omega)) (by rw [fr, fm, if_pos ⟨hb29, h53⟩, if_pos ⟨hb29, h53⟩]; try rfl) rfl (rfl)
                · have h53 : cant (ν 0) (σ 3) (σ 5) (fr (ν 0) (σ 3) (σ 5) S k) k = false := by simp [cant]; exact Int32.not_lt.mp h53
                  refine r_goto 68 rfl d_Mod_fails_56 ?_
                  refine r_iinc (ls2 := [some (.ref (a 0)), some (.int (nI S0)), some (.int (nI (fr (ν 0) (σ 3) (σ 5) S k))), some (.int (bI (fm (ν 0) (σ 3) (σ 5) S k))), some (.int (nI (k + 1)))]) (nI (k + 1)) rfl (nI_1 _) 71 rfl d_Mod_fails_68 (by decide) rfl rfl ?_
                  refine r_goto 13 rfl d_Mod_fails_71 ?_
                  refine Runs.cast (ih4 (k + 1) (by omega) (by omega)) (by rw [fr, fm, if_neg (fun z => absurd z.2 (by rw [h53]; decide)), if_neg (fun z => absurd z.2 (by rw [h53]; decide))]) rfl (rfl)
        exact L13_3 _ 0 (by omega) (Nat.lt_succ_self _)
  exact L4_1 _ S0 true 7 (hS0) (rfl) (fun _ => Nat.lt_of_le_of_lt (cz_le S0) (by decide)) (Nat.lt_succ_self _)
theorem c_Mod_gift (X : Xn) (a ν : Nat → Nat) (σ : Nat → Nat → Int32) (τ : Nat → Int64) (hn6 : ν 0 ≤ 6) (p : Nat) (hp : p < 6) : Does X 3 M_Mod_gift [.ref (a 0), .int (nI p)] (MW X a ν σ τ) 0 0 (fun (vv : Option Value) (ww : va_W) => ∃ r : Int32, giftP (ν 0) (σ 3) (σ 5) p r ∧ vv = some (.int r) ∧ ww = MW X a ν σ τ) := by
  generalize hQ : (fun (vv : Option Value) (ww : va_W) => ∃ r : Int32, giftP (ν 0) (σ 3) (σ 5) p r ∧ vv = some (.int r) ∧ ww = MW X a ν σ τ) = Q
  refine Does.go rfl (Nat.le_of_ble_eq_true rfl) [some (.ref (a 0)), some (.int (nI p)), none, none, none, none] 4 rfl ?_
  refine r_aload_n rfl 1 rfl d_Mod_gift_0 ?_
  refine r_getf (v := .ref (a 3)) gf_Mod_18 0 rfl rfl 4 rfl d_Mod_gift_1 ?_
  refine r_iload_n rfl 5 rfl d_Mod_gift_4 ?_
  refine r_iald 3 rfl p rfl (by omega) (by omega) 6 rfl d_Mod_gift_5 ?_
  refine r_istore_n (ls2 := [some (.ref (a 0)), some (.int (nI p)), some (.int (σ 3 p)), none, none, none]) 7 rfl d_Mod_gift_6 (by decide) rfl rfl ?_
  refine r_iconst ((-1)) rfl 8 rfl d_Mod_gift_7 ?_
  refine r_istore_n (ls2 := [some (.ref (a 0)), some (.int (nI p)), some (.int (σ 3 p)), some (.int (-1)), none, none]) 9 rfl d_Mod_gift_8 (by decide) rfl rfl ?_
  refine r_sipush (nI 10000) rfl 12 rfl d_Mod_gift_9 ?_
  refine r_istore (ls2 := [some (.ref (a 0)), some (.int (nI p)), some (.int (σ 3 p)), some (.int (-1)), some (.int (nI 10000)), none]) 14 rfl d_Mod_gift_12 (by decide) rfl rfl ?_
  have L14_1 : ∀ (f : Nat) (L : Nat) (H : Nat) (g : Int32), (L ≤ H) → (H ≤ 10000) → (L = 0 ∨ gbad (ν 0) (σ 3) (σ 5) p (L - 1) = true) → (H = 10000 ∨ gbad (ν 0) (σ 3) (σ 5) p H = false) → H - L < f → Runs X 3 M_Mod_gift 0 0 Q 14 [some (.ref (a 0)), some (.int (nI p)), some (.int (σ 3 p)), some (.int (nI L - 1)), some (.int (nI H)), none] [] 0 0 (MW X a ν (u2 σ 3 (upd (σ 3) p (g))) τ) := by
    intro f
    induction f with
    | zero => intro L H g h1 h2 h3 h4 hmu; exact absurd hmu (Nat.not_lt_zero _)
    | succ f ih2 =>
      intro L H g h1 h2 h3 h4 hmu
      refine r_iload rfl 16 rfl d_Mod_gift_14 ?_
      refine r_iload_n rfl 17 rfl d_Mod_gift_16 ?_
      refine r_isub 18 rfl d_Mod_gift_17 ?_
      refine r_iconst (nI 1) rfl 19 rfl d_Mod_gift_18 ?_
      refine r_icmp_le 22 66 rfl rfl d_Mod_gift_19 (fun h19 => ?_) (fun h19 => ?_)
      · have hle : H ≤ L := (gift_c h1 h2).mp h19
        refine r_aload_n rfl 67 rfl d_Mod_gift_66 ?_
        refine r_getf (v := .ref (a 3)) gf_Mod_18 0 rfl rfl 70 rfl d_Mod_gift_67 ?_
        refine r_iload_n rfl 71 rfl d_Mod_gift_70 ?_
        refine r_iload_n rfl 72 rfl d_Mod_gift_71 ?_
        refine r_iast (w2 := MW X a ν (u2 (u2 σ 3 (upd (σ 3) p (g))) 3 (upd (upd (σ 3) p (g)) p (σ 3 p))) τ) 3 rfl p rfl (by omega) (by omega) rfl 73 rfl d_Mod_gift_72 ?_
        refine r_iload rfl 75 rfl d_Mod_gift_73 ?_
        refine r_sipush (nI 10000) rfl 78 rfl d_Mod_gift_75 ?_
        refine r_icmp_neN H 10000 (by omega) (by omega) 81 86 rfl rfl d_Mod_gift_78 (fun h78 => ?_) (fun h78 => ?_)
        · refine r_iload rfl 88 rfl d_Mod_gift_86 ?_
          exact r_iret rfl (Nat.zero_le _) (Nat.zero_le _) d_Mod_gift_88 (by rw [← hQ]; exact ⟨_, Or.inr ⟨H, by omega, rfl, h4.resolve_left h78, (by rcases h3 with h3 | h3; exact Or.inl (by omega); exact Or.inr (by rw [show H - 1 = L - 1 by omega]; exact h3))⟩, rfl, by rw [u2_u2, upd_upd, upd_self, u2_self]⟩)
        · refine r_bipush ((-5)) rfl 83 rfl d_Mod_gift_81 ?_
          refine r_goto 88 rfl d_Mod_gift_83 ?_
          exact r_iret rfl (Nat.zero_le _) (Nat.zero_le _) d_Mod_gift_88 (by rw [← hQ]; exact ⟨_, Or.inl ⟨rfl, (by rcases h3 with h3 | h3; omega; rw [show (9999 : Nat) = L - 1 by omega]; exact h3)⟩, rfl, by rw [u2_u2, upd_upd, upd_self, u2_self]⟩)
      · have hlt : L < H := Nat.not_le.mp (fun z => h19 ((gift_c h1 h2).mpr z))
        refine r_iload_n rfl 23 rfl d_Mod_gift_22 ?_
        refine r_iload rfl 25 rfl d_Mod_gift_23 ?_
        refine r_iadd 26 rfl d_Mod_gift_25 ?_
        refine r_iconst (nI 2) rfl 27 rfl d_Mod_gift_26 ?_
        refine r_idiv (by decide) 28 rfl d_Mod_gift_27 ?_
        refine r_topi (nI ((L + H - 1) / 2)) (gift_m hlt h2) ?_
        refine r_istore (ls2 := [some (.ref (a 0)), some (.int (nI p)), some (.int (σ 3 p)), some (.int (nI L - 1)), some (.int (nI H)), some (.int (nI ((L + H - 1) / 2)))]) 30 rfl d_Mod_gift_28 (by decide) rfl rfl ?_
        refine r_aload_n rfl 31 rfl d_Mod_gift_30 ?_
        refine r_getf (v := .ref (a 3)) gf_Mod_18 0 rfl rfl 34 rfl d_Mod_gift_31 ?_
        refine r_iload_n rfl 35 rfl d_Mod_gift_34 ?_
        refine r_iload_n rfl 36 rfl d_Mod_gift_35 ?_
        refine r_iload rfl 38 rfl d_Mod_gift_36 ?_
        refine r_iadd 39 rfl d_Mod_gift_38 ?_
        refine r_iast (w2 := MW X a ν (u2 (u2 σ 3 (upd (σ 3) p (g))) 3 (upd (upd (σ 3) p (g)) p ((σ 3 p) + (nI ((L + H - 1) / 2))))) τ) 3 rfl p rfl (by omega) (by omega) rfl 40 rfl d_Mod_gift_39 ?_
        refine Runs.cast (w' := MW X a ν (u2 σ 3 (upd (σ 3) p (σ 3 p + nI ((L + H - 1) / 2)))) τ) ?_ rfl rfl (by rw [upd_upd, u2_u2])
        refine r_aload_n rfl 41 rfl d_Mod_gift_40 ?_
        refine r_iconst (nI 0) rfl 42 rfl d_Mod_gift_41 ?_
        refine r_callVA1 (st2 := [.int (nI (fails (ν 0) (upd (σ 3) p (σ 3 p + nI ((L + H - 1) / 2))) (σ 5) 0))]) (w2 := MW X a ν (u2 σ 3 (upd (σ 3) p (σ 3 p + nI ((L + H - 1) / 2)))) τ) lk_Mod_fails ln_Mod_134 (c_Mod_fails X a ν (u2 σ 3 (upd (σ 3) p (σ 3 p + nI ((L + H - 1) / 2)))) τ hn6 0 (by first | omega | assumption)) (by decide) rfl rfl (Nat.le_of_ble_eq_true rfl) (Nat.le_of_ble_eq_true rfl) (Nat.le_of_ble_eq_true rfl) 0 rfl rfl rfl rfl 45 rfl d_Mod_gift_42 ?_
        have hfl : fails (ν 0) (upd (σ 3) p (σ 3 p + nI ((L + H - 1) / 2))) (σ 5) 0 < 64 := fails_lt hn6 (by decide)
        refine r_iload_n rfl 46 rfl d_Mod_gift_45 ?_
        refine r_ishr 47 rfl d_Mod_gift_46 ?_
        refine r_topi (nI ((fails (ν 0) (upd (σ 3) p (σ 3 p + nI ((L + H - 1) / 2))) (σ 5) 0) >>> p)) (nI_shr (Nat.lt_trans hfl (by decide)) (by omega)) ?_
        refine r_iconst (nI 1) rfl 48 rfl d_Mod_gift_47 ?_
        refine r_iand 49 rfl d_Mod_gift_48 ?_
        refine r_topi (nI (((fails (ν 0) (upd (σ 3) p (σ 3 p + nI ((L + H - 1) / 2))) (σ 5) 0) >>> p) &&& 1)) (nx_and _ _) ?_
        refine r_iconst (nI 1) rfl 50 rfl d_Mod_gift_49 ?_
        refine r_icmp_neN (((fails (ν 0) (upd (σ 3) p (σ 3 p + nI ((L + H - 1) / 2))) (σ 5) 0) >>> p) &&& 1) 1 (b_lt31 _) (by omega) 53 59 rfl rfl d_Mod_gift_50 (fun h50 => ?_) (fun h50 => ?_)
        · have hg : gbad (ν 0) (σ 3) (σ 5) p ((L + H - 1) / 2) = false := by simp only [gbad, decide_eq_false_iff_not]; exact h50
          refine r_iload rfl 61 rfl d_Mod_gift_59 ?_
          refine r_istore (ls2 := [some (.ref (a 0)), some (.int (nI p)), some (.int (σ 3 p)), some (.int (nI L - 1)), some (.int (nI ((L + H - 1) / 2))), some (.int (nI ((L + H - 1) / 2)))]) 63 rfl d_Mod_gift_61 (by decide) rfl rfl ?_
          refine r_goto 14 rfl d_Mod_gift_63 ?_
          refine r_forget (ls2 := [some (.ref (a 0)), some (.int (nI p)), some (.int (σ 3 p)), some (.int (nI L - 1)), some (.int (nI ((L + H - 1) / 2))), none]) 5 rfl ?_
          refine Runs.cast (ih2 L ((L + H - 1) / 2) (σ 3 p + nI ((L + H - 1) / 2)) (by omega) (by omega) (h3) (Or.inr hg) (by omega)) (rfl) rfl (rfl)
        · have hg : gbad (ν 0) (σ 3) (σ 5) p ((L + H - 1) / 2) = true := by simp only [gbad, decide_eq_true_eq]; exact h50
          refine r_iload rfl 55 rfl d_Mod_gift_53 ?_
          refine r_istore_n (ls2 := [some (.ref (a 0)), some (.int (nI p)), some (.int (σ 3 p)), some (.int (nI ((L + H - 1) / 2))), some (.int (nI H)), some (.int (nI ((L + H - 1) / 2)))]) 56 rfl d_Mod_gift_55 (by decide) rfl rfl ?_
          refine r_goto 63 rfl d_Mod_gift_56 ?_
          refine r_goto 14 rfl d_Mod_gift_63 ?_
          refine r_forget (ls2 := [some (.ref (a 0)), some (.int (nI p)), some (.int (σ 3 p)), some (.int (nI ((L + H - 1) / 2))), some (.int (nI H)), none]) 5 rfl ?_
          refine Runs.cast (ih2 ((L + H - 1) / 2 + 1) H (σ 3 p + nI ((L + H - 1) / 2)) (by omega) (h2) (Or.inr (by rw [Nat.add_sub_cancel]; exact hg)) (h4) (by omega)) (by rw [gift_e]) rfl (rfl)
  refine Runs.cast (L14_1 _ 0 10000 (σ 3 p) (Nat.zero_le _) (Nat.le_refl _) (Or.inl rfl) (Or.inl rfl) (Nat.lt_succ_self _)) (by rfl) rfl (by rw [upd_self, u2_self])
end
section
/-! KEEP AND AGAIN -/
theorem cpy_0 {α : Type} {f g : Nat → α} {sp dp : Nat} : va_cpy f g sp dp 0 = g := by
  funext j; simp only [va_cpy]; split
  · omega
  · rfl
theorem cpy_s {f g : Nat → Int32} {sp dp i : Nat} : upd (va_cpy f g sp dp i) (dp + i) (f (sp + i)) = va_cpy f g sp dp (i + 1) := by
  funext j; simp only [va_cpy, upd]
  (repeat' split) <;> first | rfl | omega | (congr 1; omega)
theorem cpy_s0 {f g : Nat → Int32} {dp i : Nat} : upd (va_cpy f g 0 dp i) (dp + i) (f i) = va_cpy f g 0 dp (i + 1) := by
  have := cpy_s (f := f) (g := g) (sp := 0) (dp := dp) (i := i)
  rwa [Nat.zero_add] at this
/-- a write passes a copy that lies elsewhere -/
theorem cpy_out {f g : Nat → Int32} {sp dp n k : Nat} {x : Int32} (h : k < dp ∨ dp + n ≤ k) : upd (va_cpy f g sp dp n) k x = va_cpy f (upd g k x) sp dp n := by
  funext j; simp only [va_cpy, upd]
  (repeat' split) <;> first | rfl | omega
theorem cpy_id {f g : Nat → Int32} {sp n : Nat} (h : ∀ j, j < n → f (sp + j) = g j) : va_cpy f g sp 0 n = g := by
  funext j; simp only [va_cpy]
  split
  · rename_i hj; rw [Nat.sub_zero]; exact h j (by omega)
  · rfl
def kA (σ : Nat → Nat → Int32) (t : Nat → Int32) (i : Nat) : Nat → Int32 := va_cpy (σ 3) (va_cpy (σ 2) (va_cpy (σ 1) t 0 0 i) 0 6 i) 0 12 i
def kB (σ : Nat → Nat → Int32) (t : Nat → Int32) (i : Nat) : Nat → Int32 := va_cpy (σ 4) (kA σ t 6) 0 18 i
def kC (σ : Nat → Nat → Int32) (t : Nat → Int32) (i : Nat) : Nat → Int32 := va_cpy (σ 5) (kB σ t 24) 0 42 i
def kD (σ : Nat → Nat → Int32) (t : Nat → Int32) (i : Nat) : Nat → Int32 := va_cpy (σ 28) (va_cpy (σ 27) (va_cpy (σ 26) (va_cpy (σ 25) (va_cpy (σ 24) (kC σ t 36) 0 78 i) 0 83 i) 0 88 i) 0 93 i) 0 98 i
def kE (σ : Nat → Nat → Int32) (t : Nat → Int32) (i : Nat) : Nat → Int32 := va_cpy (σ 31) (va_cpy (σ 30) (kD σ t 5) 0 103 i) 0 113 i
def kF (σ : Nat → Nat → Int32) (t : Nat → Int32) (i : Nat) : Nat → Int32 := va_cpy (σ 35) (va_cpy (σ 34) (va_cpy (σ 33) (kE σ t 10) 0 123 i) 0 131 i) 0 139 i
def keepF (ν : Nat → Nat) (σ : Nat → Nat → Int32) (t : Nat → Int32) : Nat → Int32 := upd (upd (upd (upd (upd (upd (kF σ t 8) 147 (nI (ν 0))) 148 (nI (ν 6))) 149 (nI (ν 23))) 150 (nI (ν 29))) 151 (nI (ν 32))) 152 (σ 14 0)
theorem kA_0 {σ : Nat → Nat → Int32} {t : Nat → Int32} : kA σ t 0 = t := by simp only [kA, cpy_0]
theorem kA_s {σ : Nat → Nat → Int32} {t : Nat → Int32} {i : Nat} (h : i < 6) : upd (upd (upd (kA σ t i) i (σ 1 i)) (6 + i) (σ 2 i)) (12 + i) (σ 3 i) = kA σ t (i + 1) := by
  unfold kA
  rw [cpy_out (k := i) (by omega), cpy_out (k := i) (by omega), show upd (va_cpy (σ 1) t 0 0 i) i (σ 1 i) = va_cpy (σ 1) t 0 0 (i + 1) from by have := cpy_s0 (f := σ 1) (g := t) (dp := 0) (i := i); rwa [Nat.zero_add] at this, cpy_out (k := 6 + i) (by omega), cpy_s0, cpy_s0]
theorem kD_s {σ : Nat → Nat → Int32} {t : Nat → Int32} {i : Nat} (h : i < 5) : upd (upd (upd (upd (upd (kD σ t i) (78 + i) (σ 24 i)) (83 + i) (σ 25 i)) (88 + i) (σ 26 i)) (93 + i) (σ 27 i)) (98 + i) (σ 28 i) = kD σ t (i + 1) := by
  unfold kD
  rw [cpy_out (k := 78 + i) (by omega), cpy_out (k := 78 + i) (by omega), cpy_out (k := 78 + i) (by omega), cpy_out (k := 78 + i) (by omega), cpy_s0, cpy_out (k := 83 + i) (by omega), cpy_out (k := 83 + i) (by omega), cpy_out (k := 83 + i) (by omega), cpy_s0, cpy_out (k := 88 + i) (by omega), cpy_out (k := 88 + i) (by omega), cpy_s0, cpy_out (k := 93 + i) (by omega), cpy_s0, cpy_s0]
theorem kE_s {σ : Nat → Nat → Int32} {t : Nat → Int32} {i : Nat} (h : i < 10) : upd (upd (kE σ t i) (103 + i) (σ 30 i)) (113 + i) (σ 31 i) = kE σ t (i + 1) := by
  unfold kE
  rw [cpy_out (k := 103 + i) (by omega), cpy_s0, cpy_s0]
theorem kF_s {σ : Nat → Nat → Int32} {t : Nat → Int32} {i : Nat} (h : i < 8) : upd (upd (upd (kF σ t i) (123 + i) (σ 33 i)) (131 + i) (σ 34 i)) (139 + i) (σ 35 i) = kF σ t (i + 1) := by
  unfold kF
  rw [cpy_out (k := 123 + i) (by omega), cpy_out (k := 123 + i) (by omega), cpy_s0, cpy_out (k := 131 + i) (by omega), cpy_s0, cpy_s0]
theorem kB_0 {σ : Nat → Nat → Int32} {t : Nat → Int32} : kB σ t 0 = kA σ t 6 := cpy_0
theorem kC_0 {σ : Nat → Nat → Int32} {t : Nat → Int32} : kC σ t 0 = kB σ t 24 := cpy_0
theorem kD_0 {σ : Nat → Nat → Int32} {t : Nat → Int32} : kD σ t 0 = kC σ t 36 := by simp only [kD, cpy_0]
theorem kE_0 {σ : Nat → Nat → Int32} {t : Nat → Int32} : kE σ t 0 = kD σ t 5 := by simp only [kE, cpy_0]
theorem kF_0 {σ : Nat → Nat → Int32} {t : Nat → Int32} : kF σ t 0 = kE σ t 10 := by simp only [kF, cpy_0]
/-- what again writes -/
def g3 (σ : Nat → Nat → Int32) (g : Nat → Int32) (i : Nat) : Nat → Nat → Int32 := u2 (u2 (u2 σ 1 (va_cpy g (σ 1) 0 0 i)) 2 (va_cpy g (σ 2) 6 0 i)) 3 (va_cpy g (σ 3) 12 0 i)
def g4 (σ : Nat → Nat → Int32) (g : Nat → Int32) (i : Nat) : Nat → Nat → Int32 := u2 (g3 σ g 6) 4 (va_cpy g (σ 4) 18 0 i)
def g5 (σ : Nat → Nat → Int32) (g : Nat → Int32) (i : Nat) : Nat → Nat → Int32 := u2 (g4 σ g 24) 5 (va_cpy g (σ 5) 42 0 i)
def g6 (σ : Nat → Nat → Int32) (g : Nat → Int32) (i : Nat) : Nat → Nat → Int32 := u2 (u2 (u2 (u2 (u2 (g5 σ g 36) 24 (va_cpy g (σ 24) 78 0 i)) 25 (va_cpy g (σ 25) 83 0 i)) 26 (va_cpy g (σ 26) 88 0 i)) 27 (va_cpy g (σ 27) 93 0 i)) 28 (va_cpy g (σ 28) 98 0 i)
def g7 (σ : Nat → Nat → Int32) (g : Nat → Int32) (i : Nat) : Nat → Nat → Int32 := u2 (u2 (g6 σ g 5) 30 (va_cpy g (σ 30) 103 0 i)) 31 (va_cpy g (σ 31) 113 0 i)
def g8 (σ : Nat → Nat → Int32) (g : Nat → Int32) (i : Nat) : Nat → Nat → Int32 := u2 (u2 (u2 (g7 σ g 10) 33 (va_cpy g (σ 33) 123 0 i)) 34 (va_cpy g (σ 34) 131 0 i)) 35 (va_cpy g (σ 35) 139 0 i)
def againF (σ : Nat → Nat → Int32) (g : Nat → Int32) : Nat → Nat → Int32 := u2 (g8 σ g 8) 14 (upd (σ 14) 0 (g 152))
theorem u2_swap {σ : Nat → Nat → Int32} {a b : Nat} {f g : Nat → Int32} (h : a ≠ b) : u2 (u2 σ a f) b g = u2 (u2 σ b g) a f := by
  funext c; simp only [u2]; (repeat' split) <;> first | rfl | omega
theorem cpy_1 {f g : Nat → Int32} {sp i : Nat} : upd (va_cpy f g sp 0 i) i (f (sp + i)) = va_cpy f g sp 0 (i + 1) := by
  have := cpy_s (f := f) (g := g) (sp := sp) (dp := 0) (i := i)
  rwa [Nat.zero_add] at this
theorem cpy_1z {f g : Nat → Int32} {i : Nat} : upd (va_cpy f g 0 0 i) i (f i) = va_cpy f g 0 0 (i + 1) := by
  have := cpy_1 (f := f) (g := g) (sp := 0) (i := i)
  rwa [Nat.zero_add] at this
theorem g3_0 {σ : Nat → Nat → Int32} {g : Nat → Int32} : g3 σ g 0 = σ := by
  unfold g3
  rw [cpy_0, cpy_0, cpy_0]
  funext c; simp only [u2]; (repeat' split) <;> first | rfl | (rename_i h; rw [h]) | omega
theorem g3_s {σ : Nat → Nat → Int32} {g : Nat → Int32} {i : Nat} : u2 (u2 (u2 (g3 σ g i) 1 (upd (va_cpy g (σ 1) 0 0 i) i (g i))) 2 (upd (va_cpy g (σ 2) 6 0 i) i (g (6 + i)))) 3 (upd (va_cpy g (σ 3) 12 0 i) i (g (12 + i))) = g3 σ g (i + 1) := by
  rw [cpy_1z, cpy_1, cpy_1]
  unfold g3
  funext c; simp only [u2]; (repeat' split) <;> first | rfl | omega
theorem g4_0 {σ : Nat → Nat → Int32} {g : Nat → Int32} : g4 σ g 0 = g3 σ g 6 := by
  unfold g4; rw [cpy_0]
  exact u2_self (σ := g3 σ g 6) (k := 4)
theorem g4_s {σ : Nat → Nat → Int32} {g : Nat → Int32} {i : Nat} : u2 (g4 σ g i) 4 (upd (va_cpy g (σ 4) 18 0 i) i (g (18 + i))) = g4 σ g (i + 1) := by
  rw [cpy_1]; unfold g4; rw [u2_u2]
theorem g5_0 {σ : Nat → Nat → Int32} {g : Nat → Int32} : g5 σ g 0 = g4 σ g 24 := by
  unfold g5; rw [cpy_0]
  exact u2_self (σ := g4 σ g 24) (k := 5)
theorem g5_s {σ : Nat → Nat → Int32} {g : Nat → Int32} {i : Nat} : u2 (g5 σ g i) 5 (upd (va_cpy g (σ 5) 42 0 i) i (g (42 + i))) = g5 σ g (i + 1) := by
  rw [cpy_1]; unfold g5; rw [u2_u2]
theorem u2_eq {σ τ : Nat → Nat → Int32} {k : Nat} {f : Nat → Int32} (h : ∀ c, c ≠ k → σ c = τ c) (hf : f = τ k) : u2 σ k f = τ := by
  funext c; by_cases hc : c = k
  · rw [hc, u2_s, hf]
  · rw [u2_n hc, h c hc]
theorem g6_0 {σ : Nat → Nat → Int32} {g : Nat → Int32} : g6 σ g 0 = g5 σ g 36 := by
  unfold g6; rw [cpy_0, cpy_0, cpy_0, cpy_0, cpy_0]
  have e : ∀ c, 20 ≤ c → g5 σ g 36 c = σ c := fun c hc => by
    unfold g5 g4 g3; rw [u2_n (by omega), u2_n (by omega), u2_n (by omega), u2_n (by omega), u2_n (by omega)]
  rw [← e 24 (by omega), ← e 25 (by omega), ← e 26 (by omega), ← e 27 (by omega), ← e 28 (by omega)]
  funext c; simp only [u2]; (repeat' split) <;> first | rfl | (rename_i h; rw [h]) | omega
theorem g6_s {σ : Nat → Nat → Int32} {g : Nat → Int32} {i : Nat} : u2 (u2 (u2 (u2 (u2 (g6 σ g i) 24 (upd (va_cpy g (σ 24) 78 0 i) i (g (78 + i)))) 25 (upd (va_cpy g (σ 25) 83 0 i) i (g (83 + i)))) 26 (upd (va_cpy g (σ 26) 88 0 i) i (g (88 + i)))) 27 (upd (va_cpy g (σ 27) 93 0 i) i (g (93 + i)))) 28 (upd (va_cpy g (σ 28) 98 0 i) i (g (98 + i))) = g6 σ g (i + 1) := by
  rw [cpy_1, cpy_1, cpy_1, cpy_1, cpy_1]
  unfold g6
  funext c; simp only [u2]; (repeat' split) <;> first | rfl | omega
theorem g7_0 {σ : Nat → Nat → Int32} {g : Nat → Int32} : g7 σ g 0 = g6 σ g 5 := by
  unfold g7; rw [cpy_0, cpy_0]
  have e : ∀ c, 29 ≤ c → g6 σ g 5 c = σ c := fun c hc => by
    unfold g6 g5 g4 g3; rw [u2_n (by omega), u2_n (by omega), u2_n (by omega), u2_n (by omega), u2_n (by omega), u2_n (by omega), u2_n (by omega), u2_n (by omega), u2_n (by omega), u2_n (by omega)]
  rw [← e 30 (by omega), ← e 31 (by omega)]
  funext c; simp only [u2]; (repeat' split) <;> first | rfl | (rename_i h; rw [h]) | omega
theorem g7_s {σ : Nat → Nat → Int32} {g : Nat → Int32} {i : Nat} : u2 (u2 (g7 σ g i) 30 (upd (va_cpy g (σ 30) 103 0 i) i (g (103 + i)))) 31 (upd (va_cpy g (σ 31) 113 0 i) i (g (113 + i))) = g7 σ g (i + 1) := by
  rw [cpy_1, cpy_1]
  unfold g7
  funext c; simp only [u2]; (repeat' split) <;> first | rfl | omega
theorem g8_0 {σ : Nat → Nat → Int32} {g : Nat → Int32} : g8 σ g 0 = g7 σ g 10 := by
  unfold g8; rw [cpy_0, cpy_0, cpy_0]
  have e : ∀ c, 32 ≤ c → g7 σ g 10 c = σ c := fun c hc => by
    unfold g7 g6 g5 g4 g3; rw [u2_n (by omega), u2_n (by omega), u2_n (by omega), u2_n (by omega), u2_n (by omega), u2_n (by omega), u2_n (by omega), u2_n (by omega), u2_n (by omega), u2_n (by omega), u2_n (by omega), u2_n (by omega)]
  rw [← e 33 (by omega), ← e 34 (by omega), ← e 35 (by omega)]
  funext c; simp only [u2]; (repeat' split) <;> first | rfl | (rename_i h; rw [h]) | omega
theorem g8_s {σ : Nat → Nat → Int32} {g : Nat → Int32} {i : Nat} : u2 (u2 (u2 (g8 σ g i) 33 (upd (va_cpy g (σ 33) 123 0 i) i (g (123 + i)))) 34 (upd (va_cpy g (σ 34) 131 0 i) i (g (131 + i)))) 35 (upd (va_cpy g (σ 35) 139 0 i) i (g (139 + i))) = g8 σ g (i + 1) := by
  rw [cpy_1, cpy_1, cpy_1]
  unfold g8
  funext c; simp only [u2]; (repeat' split) <;> first | rfl | omega
/-- how many of six bits are set -/
def popc (S : Nat) : Nat := (S >>> 0 &&& 1) + (S >>> 1 &&& 1) + (S >>> 2 &&& 1) + (S >>> 3 &&& 1) + (S >>> 4 &&& 1) + (S >>> 5 &&& 1)
def us (x y : Int32) : Int32 := (x.toUInt32 >>> (y.toUInt32 &&& Int32.toUInt32 31)).toInt32
def bc1 (x : Int32) : Int32 := x - (us x (nI 1) &&& nI 1431655765)
def bc2 (x : Int32) : Int32 := (x &&& nI 858993459) + (us x (nI 2) &&& nI 858993459)
def bc3 (x : Int32) : Int32 := (x + us x (nI 4)) &&& nI 252645135
def bc4 (x : Int32) : Int32 := x + us x (nI 8)
def bc5 (x : Int32) : Int32 := (x + us x (nI 16)) &&& nI 63
theorem bitCount_all : ∀ S : Fin 64, bc5 (bc4 (bc3 (bc2 (bc1 (nI S.val))))) = nI (popc S.val) := by decide +kernel
theorem bitCount_eq (S : Nat) (hS : S < 64) : bc5 (bc4 (bc3 (bc2 (bc1 (nI S))))) = nI (popc S) := bitCount_all ⟨S, hS⟩
theorem bitCount_some (S : Nat) (hS : S < 64) {x : Int32} (h : x = bc5 (bc4 (bc3 (bc2 (bc1 (nI S)))))) : some (Value.int x) = some (Value.int (nI (popc S))) := by rw [h, bitCount_eq S hS]
end
section
def M_Mod_keep : XM := (⟨"HandshakeBindsModel", "keep", "([I)V"⟩, prog_11_method_63_code, 3, none)
theorem d_Mod_keep_0 : decode M_Mod_keep.2.1 0 = .ok (.iconst 0, 1) := by decide +kernel
theorem d_Mod_keep_1 : decode M_Mod_keep.2.1 1 = .ok (.istore_n 2, 1) := by decide +kernel
theorem d_Mod_keep_2 : decode M_Mod_keep.2.1 2 = .ok (.iload_n 2, 1) := by decide +kernel
theorem d_Mod_keep_3 : decode M_Mod_keep.2.1 3 = .ok (.bipush 6, 2) := by decide +kernel
theorem d_Mod_keep_5 : decode M_Mod_keep.2.1 5 = .ok (.if_icmp .ge 42, 3) := by decide +kernel
theorem d_Mod_keep_47 : decode M_Mod_keep.2.1 47 = .ok (.iconst 0, 1) := by decide +kernel
theorem d_Mod_keep_48 : decode M_Mod_keep.2.1 48 = .ok (.istore_n 2, 1) := by decide +kernel
theorem d_Mod_keep_49 : decode M_Mod_keep.2.1 49 = .ok (.iload_n 2, 1) := by decide +kernel
theorem d_Mod_keep_50 : decode M_Mod_keep.2.1 50 = .ok (.bipush 24, 2) := by decide +kernel
theorem d_Mod_keep_52 : decode M_Mod_keep.2.1 52 = .ok (.if_icmp .ge 21, 3) := by decide +kernel
theorem d_Mod_keep_73 : decode M_Mod_keep.2.1 73 = .ok (.iconst 0, 1) := by decide +kernel
theorem d_Mod_keep_74 : decode M_Mod_keep.2.1 74 = .ok (.istore_n 2, 1) := by decide +kernel
theorem d_Mod_keep_75 : decode M_Mod_keep.2.1 75 = .ok (.iload_n 2, 1) := by decide +kernel
theorem d_Mod_keep_76 : decode M_Mod_keep.2.1 76 = .ok (.bipush 36, 2) := by decide +kernel
theorem d_Mod_keep_78 : decode M_Mod_keep.2.1 78 = .ok (.if_icmp .ge 21, 3) := by decide +kernel
theorem d_Mod_keep_99 : decode M_Mod_keep.2.1 99 = .ok (.iconst 0, 1) := by decide +kernel
theorem d_Mod_keep_100 : decode M_Mod_keep.2.1 100 = .ok (.istore_n 2, 1) := by decide +kernel
theorem d_Mod_keep_101 : decode M_Mod_keep.2.1 101 = .ok (.iload_n 2, 1) := by decide +kernel
theorem d_Mod_keep_102 : decode M_Mod_keep.2.1 102 = .ok (.iconst 5, 1) := by decide +kernel
theorem d_Mod_keep_103 : decode M_Mod_keep.2.1 103 = .ok (.if_icmp .ge 69, 3) := by decide +kernel
theorem d_Mod_keep_172 : decode M_Mod_keep.2.1 172 = .ok (.iconst 0, 1) := by decide +kernel
theorem d_Mod_keep_173 : decode M_Mod_keep.2.1 173 = .ok (.istore_n 2, 1) := by decide +kernel
theorem d_Mod_keep_174 : decode M_Mod_keep.2.1 174 = .ok (.iload_n 2, 1) := by decide +kernel
theorem d_Mod_keep_175 : decode M_Mod_keep.2.1 175 = .ok (.bipush 10, 2) := by decide +kernel
theorem d_Mod_keep_177 : decode M_Mod_keep.2.1 177 = .ok (.if_icmp .ge 33, 3) := by decide +kernel
theorem d_Mod_keep_210 : decode M_Mod_keep.2.1 210 = .ok (.iconst 0, 1) := by decide +kernel
theorem d_Mod_keep_211 : decode M_Mod_keep.2.1 211 = .ok (.istore_n 2, 1) := by decide +kernel
theorem d_Mod_keep_212 : decode M_Mod_keep.2.1 212 = .ok (.iload_n 2, 1) := by decide +kernel
theorem d_Mod_keep_213 : decode M_Mod_keep.2.1 213 = .ok (.bipush 8, 2) := by decide +kernel
theorem d_Mod_keep_215 : decode M_Mod_keep.2.1 215 = .ok (.if_icmp .ge 47, 3) := by decide +kernel
theorem d_Mod_keep_262 : decode M_Mod_keep.2.1 262 = .ok (.aload_n 1, 1) := by decide +kernel
theorem d_Mod_keep_263 : decode M_Mod_keep.2.1 263 = .ok (.sipush 147, 3) := by decide +kernel
theorem d_Mod_keep_266 : decode M_Mod_keep.2.1 266 = .ok (.aload_n 0, 1) := by decide +kernel
theorem d_Mod_keep_267 : decode M_Mod_keep.2.1 267 = .ok (.getfield 111, 3) := by decide +kernel
theorem d_Mod_keep_270 : decode M_Mod_keep.2.1 270 = .ok (.iastore, 1) := by decide +kernel
theorem d_Mod_keep_271 : decode M_Mod_keep.2.1 271 = .ok (.aload_n 1, 1) := by decide +kernel
theorem d_Mod_keep_272 : decode M_Mod_keep.2.1 272 = .ok (.sipush 148, 3) := by decide +kernel
theorem d_Mod_keep_275 : decode M_Mod_keep.2.1 275 = .ok (.aload_n 0, 1) := by decide +kernel
theorem d_Mod_keep_276 : decode M_Mod_keep.2.1 276 = .ok (.getfield 240, 3) := by decide +kernel
theorem gf_Mod_240 : GF "HandshakeBindsModel" 240 9 6 := ⟨_, _, _, rfl, by decide, i_Mod, inTB 856 (by decide +kernel) rfl⟩
theorem d_Mod_keep_279 : decode M_Mod_keep.2.1 279 = .ok (.iastore, 1) := by decide +kernel
theorem d_Mod_keep_280 : decode M_Mod_keep.2.1 280 = .ok (.aload_n 1, 1) := by decide +kernel
theorem d_Mod_keep_281 : decode M_Mod_keep.2.1 281 = .ok (.sipush 149, 3) := by decide +kernel
theorem d_Mod_keep_284 : decode M_Mod_keep.2.1 284 = .ok (.aload_n 0, 1) := by decide +kernel
theorem d_Mod_keep_285 : decode M_Mod_keep.2.1 285 = .ok (.getfield 297, 3) := by decide +kernel
theorem gf_Mod_297 : GF "HandshakeBindsModel" 297 9 23 := ⟨_, _, _, rfl, by decide, i_Mod, inTB 873 (by decide +kernel) rfl⟩
theorem d_Mod_keep_288 : decode M_Mod_keep.2.1 288 = .ok (.iastore, 1) := by decide +kernel
theorem d_Mod_keep_289 : decode M_Mod_keep.2.1 289 = .ok (.aload_n 1, 1) := by decide +kernel
theorem d_Mod_keep_290 : decode M_Mod_keep.2.1 290 = .ok (.sipush 150, 3) := by decide +kernel
theorem d_Mod_keep_293 : decode M_Mod_keep.2.1 293 = .ok (.aload_n 0, 1) := by decide +kernel
theorem d_Mod_keep_294 : decode M_Mod_keep.2.1 294 = .ok (.getfield 312, 3) := by decide +kernel
theorem gf_Mod_312 : GF "HandshakeBindsModel" 312 9 29 := ⟨_, _, _, rfl, by decide, i_Mod, inTB 879 (by decide +kernel) rfl⟩
theorem d_Mod_keep_297 : decode M_Mod_keep.2.1 297 = .ok (.iastore, 1) := by decide +kernel
theorem d_Mod_keep_298 : decode M_Mod_keep.2.1 298 = .ok (.aload_n 1, 1) := by decide +kernel
theorem d_Mod_keep_299 : decode M_Mod_keep.2.1 299 = .ok (.sipush 151, 3) := by decide +kernel
theorem d_Mod_keep_302 : decode M_Mod_keep.2.1 302 = .ok (.aload_n 0, 1) := by decide +kernel
theorem d_Mod_keep_303 : decode M_Mod_keep.2.1 303 = .ok (.getfield 319, 3) := by decide +kernel
theorem gf_Mod_319 : GF "HandshakeBindsModel" 319 9 32 := ⟨_, _, _, rfl, by decide, i_Mod, inTB 882 (by decide +kernel) rfl⟩
theorem d_Mod_keep_306 : decode M_Mod_keep.2.1 306 = .ok (.iastore, 1) := by decide +kernel
theorem d_Mod_keep_307 : decode M_Mod_keep.2.1 307 = .ok (.aload_n 1, 1) := by decide +kernel
theorem d_Mod_keep_308 : decode M_Mod_keep.2.1 308 = .ok (.sipush 152, 3) := by decide +kernel
theorem d_Mod_keep_311 : decode M_Mod_keep.2.1 311 = .ok (.aload_n 0, 1) := by decide +kernel
theorem d_Mod_keep_312 : decode M_Mod_keep.2.1 312 = .ok (.getfield 107, 3) := by decide +kernel
theorem gf_Mod_107 : GF "HandshakeBindsModel" 107 9 14 := ⟨_, _, _, rfl, by decide, i_Mod, inTB 864 (by decide +kernel) rfl⟩
theorem d_Mod_keep_315 : decode M_Mod_keep.2.1 315 = .ok (.iastore, 1) := by decide +kernel
theorem d_Mod_keep_316 : decode M_Mod_keep.2.1 316 = .ok (.return_, 1) := by decide +kernel
theorem d_Mod_keep_218 : decode M_Mod_keep.2.1 218 = .ok (.aload_n 1, 1) := by decide +kernel
theorem d_Mod_keep_219 : decode M_Mod_keep.2.1 219 = .ok (.bipush 123, 2) := by decide +kernel
theorem d_Mod_keep_221 : decode M_Mod_keep.2.1 221 = .ok (.iload_n 2, 1) := by decide +kernel
theorem d_Mod_keep_222 : decode M_Mod_keep.2.1 222 = .ok (.iadd, 1) := by decide +kernel
theorem d_Mod_keep_223 : decode M_Mod_keep.2.1 223 = .ok (.aload_n 0, 1) := by decide +kernel
theorem d_Mod_keep_224 : decode M_Mod_keep.2.1 224 = .ok (.getfield 73, 3) := by decide +kernel
theorem gf_Mod_73 : GF "HandshakeBindsModel" 73 9 33 := ⟨_, _, _, rfl, by decide, i_Mod, inTB 883 (by decide +kernel) rfl⟩
theorem d_Mod_keep_227 : decode M_Mod_keep.2.1 227 = .ok (.iload_n 2, 1) := by decide +kernel
theorem d_Mod_keep_228 : decode M_Mod_keep.2.1 228 = .ok (.iaload, 1) := by decide +kernel
theorem d_Mod_keep_229 : decode M_Mod_keep.2.1 229 = .ok (.iastore, 1) := by decide +kernel
theorem d_Mod_keep_230 : decode M_Mod_keep.2.1 230 = .ok (.aload_n 1, 1) := by decide +kernel
theorem d_Mod_keep_231 : decode M_Mod_keep.2.1 231 = .ok (.sipush 131, 3) := by decide +kernel
theorem d_Mod_keep_234 : decode M_Mod_keep.2.1 234 = .ok (.iload_n 2, 1) := by decide +kernel
theorem d_Mod_keep_235 : decode M_Mod_keep.2.1 235 = .ok (.iadd, 1) := by decide +kernel
theorem d_Mod_keep_236 : decode M_Mod_keep.2.1 236 = .ok (.aload_n 0, 1) := by decide +kernel
theorem d_Mod_keep_237 : decode M_Mod_keep.2.1 237 = .ok (.getfield 76, 3) := by decide +kernel
theorem gf_Mod_76 : GF "HandshakeBindsModel" 76 9 34 := ⟨_, _, _, rfl, by decide, i_Mod, inTB 884 (by decide +kernel) rfl⟩
theorem d_Mod_keep_240 : decode M_Mod_keep.2.1 240 = .ok (.iload_n 2, 1) := by decide +kernel
theorem d_Mod_keep_241 : decode M_Mod_keep.2.1 241 = .ok (.iaload, 1) := by decide +kernel
theorem d_Mod_keep_242 : decode M_Mod_keep.2.1 242 = .ok (.iastore, 1) := by decide +kernel
theorem d_Mod_keep_243 : decode M_Mod_keep.2.1 243 = .ok (.aload_n 1, 1) := by decide +kernel
theorem d_Mod_keep_244 : decode M_Mod_keep.2.1 244 = .ok (.sipush 139, 3) := by decide +kernel
theorem d_Mod_keep_247 : decode M_Mod_keep.2.1 247 = .ok (.iload_n 2, 1) := by decide +kernel
theorem d_Mod_keep_248 : decode M_Mod_keep.2.1 248 = .ok (.iadd, 1) := by decide +kernel
theorem d_Mod_keep_249 : decode M_Mod_keep.2.1 249 = .ok (.aload_n 0, 1) := by decide +kernel
theorem d_Mod_keep_250 : decode M_Mod_keep.2.1 250 = .ok (.getfield 79, 3) := by decide +kernel
theorem gf_Mod_79 : GF "HandshakeBindsModel" 79 9 35 := ⟨_, _, _, rfl, by decide, i_Mod, inTB 885 (by decide +kernel) rfl⟩
theorem d_Mod_keep_253 : decode M_Mod_keep.2.1 253 = .ok (.iload_n 2, 1) := by decide +kernel
theorem d_Mod_keep_254 : decode M_Mod_keep.2.1 254 = .ok (.iaload, 1) := by decide +kernel
theorem d_Mod_keep_255 : decode M_Mod_keep.2.1 255 = .ok (.iastore, 1) := by decide +kernel
theorem d_Mod_keep_256 : decode M_Mod_keep.2.1 256 = .ok (.iinc 2 1, 3) := by decide +kernel
theorem d_Mod_keep_259 : decode M_Mod_keep.2.1 259 = .ok (.goto (-47), 3) := by decide +kernel
theorem d_Mod_keep_180 : decode M_Mod_keep.2.1 180 = .ok (.aload_n 1, 1) := by decide +kernel
theorem d_Mod_keep_181 : decode M_Mod_keep.2.1 181 = .ok (.bipush 103, 2) := by decide +kernel
theorem d_Mod_keep_183 : decode M_Mod_keep.2.1 183 = .ok (.iload_n 2, 1) := by decide +kernel
theorem d_Mod_keep_184 : decode M_Mod_keep.2.1 184 = .ok (.iadd, 1) := by decide +kernel
theorem d_Mod_keep_185 : decode M_Mod_keep.2.1 185 = .ok (.aload_n 0, 1) := by decide +kernel
theorem d_Mod_keep_186 : decode M_Mod_keep.2.1 186 = .ok (.getfield 67, 3) := by decide +kernel
theorem gf_Mod_67 : GF "HandshakeBindsModel" 67 9 30 := ⟨_, _, _, rfl, by decide, i_Mod, inTB 880 (by decide +kernel) rfl⟩
theorem d_Mod_keep_189 : decode M_Mod_keep.2.1 189 = .ok (.iload_n 2, 1) := by decide +kernel
theorem d_Mod_keep_190 : decode M_Mod_keep.2.1 190 = .ok (.iaload, 1) := by decide +kernel
theorem d_Mod_keep_191 : decode M_Mod_keep.2.1 191 = .ok (.iastore, 1) := by decide +kernel
theorem d_Mod_keep_192 : decode M_Mod_keep.2.1 192 = .ok (.aload_n 1, 1) := by decide +kernel
theorem d_Mod_keep_193 : decode M_Mod_keep.2.1 193 = .ok (.bipush 113, 2) := by decide +kernel
theorem d_Mod_keep_195 : decode M_Mod_keep.2.1 195 = .ok (.iload_n 2, 1) := by decide +kernel
theorem d_Mod_keep_196 : decode M_Mod_keep.2.1 196 = .ok (.iadd, 1) := by decide +kernel
theorem d_Mod_keep_197 : decode M_Mod_keep.2.1 197 = .ok (.aload_n 0, 1) := by decide +kernel
theorem d_Mod_keep_198 : decode M_Mod_keep.2.1 198 = .ok (.getfield 70, 3) := by decide +kernel
theorem gf_Mod_70 : GF "HandshakeBindsModel" 70 9 31 := ⟨_, _, _, rfl, by decide, i_Mod, inTB 881 (by decide +kernel) rfl⟩
theorem d_Mod_keep_201 : decode M_Mod_keep.2.1 201 = .ok (.iload_n 2, 1) := by decide +kernel
theorem d_Mod_keep_202 : decode M_Mod_keep.2.1 202 = .ok (.iaload, 1) := by decide +kernel
theorem d_Mod_keep_203 : decode M_Mod_keep.2.1 203 = .ok (.iastore, 1) := by decide +kernel
theorem d_Mod_keep_204 : decode M_Mod_keep.2.1 204 = .ok (.iinc 2 1, 3) := by decide +kernel
theorem d_Mod_keep_207 : decode M_Mod_keep.2.1 207 = .ok (.goto (-33), 3) := by decide +kernel
theorem d_Mod_keep_106 : decode M_Mod_keep.2.1 106 = .ok (.aload_n 1, 1) := by decide +kernel
theorem d_Mod_keep_107 : decode M_Mod_keep.2.1 107 = .ok (.bipush 78, 2) := by decide +kernel
theorem d_Mod_keep_109 : decode M_Mod_keep.2.1 109 = .ok (.iload_n 2, 1) := by decide +kernel
theorem d_Mod_keep_110 : decode M_Mod_keep.2.1 110 = .ok (.iadd, 1) := by decide +kernel
theorem d_Mod_keep_111 : decode M_Mod_keep.2.1 111 = .ok (.aload_n 0, 1) := by decide +kernel
theorem d_Mod_keep_112 : decode M_Mod_keep.2.1 112 = .ok (.getfield 52, 3) := by decide +kernel
theorem gf_Mod_52 : GF "HandshakeBindsModel" 52 9 24 := ⟨_, _, _, rfl, by decide, i_Mod, inTB 874 (by decide +kernel) rfl⟩
theorem d_Mod_keep_115 : decode M_Mod_keep.2.1 115 = .ok (.iload_n 2, 1) := by decide +kernel
theorem d_Mod_keep_116 : decode M_Mod_keep.2.1 116 = .ok (.iaload, 1) := by decide +kernel
theorem d_Mod_keep_117 : decode M_Mod_keep.2.1 117 = .ok (.iastore, 1) := by decide +kernel
theorem d_Mod_keep_118 : decode M_Mod_keep.2.1 118 = .ok (.aload_n 1, 1) := by decide +kernel
theorem d_Mod_keep_119 : decode M_Mod_keep.2.1 119 = .ok (.bipush 83, 2) := by decide +kernel
theorem d_Mod_keep_121 : decode M_Mod_keep.2.1 121 = .ok (.iload_n 2, 1) := by decide +kernel
theorem d_Mod_keep_122 : decode M_Mod_keep.2.1 122 = .ok (.iadd, 1) := by decide +kernel
theorem d_Mod_keep_123 : decode M_Mod_keep.2.1 123 = .ok (.aload_n 0, 1) := by decide +kernel
theorem d_Mod_keep_124 : decode M_Mod_keep.2.1 124 = .ok (.getfield 55, 3) := by decide +kernel
theorem gf_Mod_55 : GF "HandshakeBindsModel" 55 9 25 := ⟨_, _, _, rfl, by decide, i_Mod, inTB 875 (by decide +kernel) rfl⟩
theorem d_Mod_keep_127 : decode M_Mod_keep.2.1 127 = .ok (.iload_n 2, 1) := by decide +kernel
theorem d_Mod_keep_128 : decode M_Mod_keep.2.1 128 = .ok (.iaload, 1) := by decide +kernel
theorem d_Mod_keep_129 : decode M_Mod_keep.2.1 129 = .ok (.iastore, 1) := by decide +kernel
theorem d_Mod_keep_130 : decode M_Mod_keep.2.1 130 = .ok (.aload_n 1, 1) := by decide +kernel
theorem d_Mod_keep_131 : decode M_Mod_keep.2.1 131 = .ok (.bipush 88, 2) := by decide +kernel
theorem d_Mod_keep_133 : decode M_Mod_keep.2.1 133 = .ok (.iload_n 2, 1) := by decide +kernel
theorem d_Mod_keep_134 : decode M_Mod_keep.2.1 134 = .ok (.iadd, 1) := by decide +kernel
theorem d_Mod_keep_135 : decode M_Mod_keep.2.1 135 = .ok (.aload_n 0, 1) := by decide +kernel
theorem d_Mod_keep_136 : decode M_Mod_keep.2.1 136 = .ok (.getfield 58, 3) := by decide +kernel
theorem gf_Mod_58 : GF "HandshakeBindsModel" 58 9 26 := ⟨_, _, _, rfl, by decide, i_Mod, inTB 876 (by decide +kernel) rfl⟩
theorem d_Mod_keep_139 : decode M_Mod_keep.2.1 139 = .ok (.iload_n 2, 1) := by decide +kernel
theorem d_Mod_keep_140 : decode M_Mod_keep.2.1 140 = .ok (.iaload, 1) := by decide +kernel
theorem d_Mod_keep_141 : decode M_Mod_keep.2.1 141 = .ok (.iastore, 1) := by decide +kernel
theorem d_Mod_keep_142 : decode M_Mod_keep.2.1 142 = .ok (.aload_n 1, 1) := by decide +kernel
theorem d_Mod_keep_143 : decode M_Mod_keep.2.1 143 = .ok (.bipush 93, 2) := by decide +kernel
theorem d_Mod_keep_145 : decode M_Mod_keep.2.1 145 = .ok (.iload_n 2, 1) := by decide +kernel
theorem d_Mod_keep_146 : decode M_Mod_keep.2.1 146 = .ok (.iadd, 1) := by decide +kernel
theorem d_Mod_keep_147 : decode M_Mod_keep.2.1 147 = .ok (.aload_n 0, 1) := by decide +kernel
theorem d_Mod_keep_148 : decode M_Mod_keep.2.1 148 = .ok (.getfield 61, 3) := by decide +kernel
theorem gf_Mod_61 : GF "HandshakeBindsModel" 61 9 27 := ⟨_, _, _, rfl, by decide, i_Mod, inTB 877 (by decide +kernel) rfl⟩
theorem d_Mod_keep_151 : decode M_Mod_keep.2.1 151 = .ok (.iload_n 2, 1) := by decide +kernel
theorem d_Mod_keep_152 : decode M_Mod_keep.2.1 152 = .ok (.iaload, 1) := by decide +kernel
theorem d_Mod_keep_153 : decode M_Mod_keep.2.1 153 = .ok (.iastore, 1) := by decide +kernel
theorem d_Mod_keep_154 : decode M_Mod_keep.2.1 154 = .ok (.aload_n 1, 1) := by decide +kernel
theorem d_Mod_keep_155 : decode M_Mod_keep.2.1 155 = .ok (.bipush 98, 2) := by decide +kernel
theorem d_Mod_keep_157 : decode M_Mod_keep.2.1 157 = .ok (.iload_n 2, 1) := by decide +kernel
theorem d_Mod_keep_158 : decode M_Mod_keep.2.1 158 = .ok (.iadd, 1) := by decide +kernel
theorem d_Mod_keep_159 : decode M_Mod_keep.2.1 159 = .ok (.aload_n 0, 1) := by decide +kernel
theorem d_Mod_keep_160 : decode M_Mod_keep.2.1 160 = .ok (.getfield 64, 3) := by decide +kernel
theorem gf_Mod_64 : GF "HandshakeBindsModel" 64 9 28 := ⟨_, _, _, rfl, by decide, i_Mod, inTB 878 (by decide +kernel) rfl⟩
theorem d_Mod_keep_163 : decode M_Mod_keep.2.1 163 = .ok (.iload_n 2, 1) := by decide +kernel
theorem d_Mod_keep_164 : decode M_Mod_keep.2.1 164 = .ok (.iaload, 1) := by decide +kernel
theorem d_Mod_keep_165 : decode M_Mod_keep.2.1 165 = .ok (.iastore, 1) := by decide +kernel
theorem d_Mod_keep_166 : decode M_Mod_keep.2.1 166 = .ok (.iinc 2 1, 3) := by decide +kernel
theorem d_Mod_keep_169 : decode M_Mod_keep.2.1 169 = .ok (.goto (-68), 3) := by decide +kernel
theorem d_Mod_keep_81 : decode M_Mod_keep.2.1 81 = .ok (.aload_n 1, 1) := by decide +kernel
theorem d_Mod_keep_82 : decode M_Mod_keep.2.1 82 = .ok (.bipush 42, 2) := by decide +kernel
theorem d_Mod_keep_84 : decode M_Mod_keep.2.1 84 = .ok (.iload_n 2, 1) := by decide +kernel
theorem d_Mod_keep_85 : decode M_Mod_keep.2.1 85 = .ok (.iadd, 1) := by decide +kernel
theorem d_Mod_keep_86 : decode M_Mod_keep.2.1 86 = .ok (.aload_n 0, 1) := by decide +kernel
theorem d_Mod_keep_87 : decode M_Mod_keep.2.1 87 = .ok (.getfield 24, 3) := by decide +kernel
theorem d_Mod_keep_90 : decode M_Mod_keep.2.1 90 = .ok (.iload_n 2, 1) := by decide +kernel
theorem d_Mod_keep_91 : decode M_Mod_keep.2.1 91 = .ok (.iaload, 1) := by decide +kernel
theorem d_Mod_keep_92 : decode M_Mod_keep.2.1 92 = .ok (.iastore, 1) := by decide +kernel
theorem d_Mod_keep_93 : decode M_Mod_keep.2.1 93 = .ok (.iinc 2 1, 3) := by decide +kernel
theorem d_Mod_keep_96 : decode M_Mod_keep.2.1 96 = .ok (.goto (-21), 3) := by decide +kernel
theorem d_Mod_keep_55 : decode M_Mod_keep.2.1 55 = .ok (.aload_n 1, 1) := by decide +kernel
theorem d_Mod_keep_56 : decode M_Mod_keep.2.1 56 = .ok (.bipush 18, 2) := by decide +kernel
theorem d_Mod_keep_58 : decode M_Mod_keep.2.1 58 = .ok (.iload_n 2, 1) := by decide +kernel
theorem d_Mod_keep_59 : decode M_Mod_keep.2.1 59 = .ok (.iadd, 1) := by decide +kernel
theorem d_Mod_keep_60 : decode M_Mod_keep.2.1 60 = .ok (.aload_n 0, 1) := by decide +kernel
theorem d_Mod_keep_61 : decode M_Mod_keep.2.1 61 = .ok (.getfield 21, 3) := by decide +kernel
theorem gf_Mod_21 : GF "HandshakeBindsModel" 21 9 4 := ⟨_, _, _, rfl, by decide, i_Mod, inTB 854 (by decide +kernel) rfl⟩
theorem d_Mod_keep_64 : decode M_Mod_keep.2.1 64 = .ok (.iload_n 2, 1) := by decide +kernel
theorem d_Mod_keep_65 : decode M_Mod_keep.2.1 65 = .ok (.iaload, 1) := by decide +kernel
theorem d_Mod_keep_66 : decode M_Mod_keep.2.1 66 = .ok (.iastore, 1) := by decide +kernel
theorem d_Mod_keep_67 : decode M_Mod_keep.2.1 67 = .ok (.iinc 2 1, 3) := by decide +kernel
theorem d_Mod_keep_70 : decode M_Mod_keep.2.1 70 = .ok (.goto (-21), 3) := by decide +kernel
theorem d_Mod_keep_8 : decode M_Mod_keep.2.1 8 = .ok (.aload_n 1, 1) := by decide +kernel
theorem d_Mod_keep_9 : decode M_Mod_keep.2.1 9 = .ok (.iload_n 2, 1) := by decide +kernel
theorem d_Mod_keep_10 : decode M_Mod_keep.2.1 10 = .ok (.aload_n 0, 1) := by decide +kernel
theorem d_Mod_keep_11 : decode M_Mod_keep.2.1 11 = .ok (.getfield 9, 3) := by decide +kernel
theorem gf_Mod_9 : GF "HandshakeBindsModel" 9 9 1 := ⟨_, _, _, rfl, by decide, i_Mod, inTB 851 (by decide +kernel) rfl⟩
theorem d_Mod_keep_14 : decode M_Mod_keep.2.1 14 = .ok (.iload_n 2, 1) := by decide +kernel
theorem d_Mod_keep_15 : decode M_Mod_keep.2.1 15 = .ok (.iaload, 1) := by decide +kernel
theorem d_Mod_keep_16 : decode M_Mod_keep.2.1 16 = .ok (.iastore, 1) := by decide +kernel
theorem d_Mod_keep_17 : decode M_Mod_keep.2.1 17 = .ok (.aload_n 1, 1) := by decide +kernel
theorem d_Mod_keep_18 : decode M_Mod_keep.2.1 18 = .ok (.bipush 6, 2) := by decide +kernel
theorem d_Mod_keep_20 : decode M_Mod_keep.2.1 20 = .ok (.iload_n 2, 1) := by decide +kernel
theorem d_Mod_keep_21 : decode M_Mod_keep.2.1 21 = .ok (.iadd, 1) := by decide +kernel
theorem d_Mod_keep_22 : decode M_Mod_keep.2.1 22 = .ok (.aload_n 0, 1) := by decide +kernel
theorem d_Mod_keep_23 : decode M_Mod_keep.2.1 23 = .ok (.getfield 15, 3) := by decide +kernel
theorem gf_Mod_15 : GF "HandshakeBindsModel" 15 9 2 := ⟨_, _, _, rfl, by decide, i_Mod, inTB 852 (by decide +kernel) rfl⟩
theorem d_Mod_keep_26 : decode M_Mod_keep.2.1 26 = .ok (.iload_n 2, 1) := by decide +kernel
theorem d_Mod_keep_27 : decode M_Mod_keep.2.1 27 = .ok (.iaload, 1) := by decide +kernel
theorem d_Mod_keep_28 : decode M_Mod_keep.2.1 28 = .ok (.iastore, 1) := by decide +kernel
theorem d_Mod_keep_29 : decode M_Mod_keep.2.1 29 = .ok (.aload_n 1, 1) := by decide +kernel
theorem d_Mod_keep_30 : decode M_Mod_keep.2.1 30 = .ok (.bipush 12, 2) := by decide +kernel
theorem d_Mod_keep_32 : decode M_Mod_keep.2.1 32 = .ok (.iload_n 2, 1) := by decide +kernel
theorem d_Mod_keep_33 : decode M_Mod_keep.2.1 33 = .ok (.iadd, 1) := by decide +kernel
theorem d_Mod_keep_34 : decode M_Mod_keep.2.1 34 = .ok (.aload_n 0, 1) := by decide +kernel
theorem d_Mod_keep_35 : decode M_Mod_keep.2.1 35 = .ok (.getfield 18, 3) := by decide +kernel
theorem d_Mod_keep_38 : decode M_Mod_keep.2.1 38 = .ok (.iload_n 2, 1) := by decide +kernel
theorem d_Mod_keep_39 : decode M_Mod_keep.2.1 39 = .ok (.iaload, 1) := by decide +kernel
theorem d_Mod_keep_40 : decode M_Mod_keep.2.1 40 = .ok (.iastore, 1) := by decide +kernel
theorem d_Mod_keep_41 : decode M_Mod_keep.2.1 41 = .ok (.iinc 2 1, 3) := by decide +kernel
theorem d_Mod_keep_44 : decode M_Mod_keep.2.1 44 = .ok (.goto (-42), 3) := by decide +kernel
def M_Mod_again : XM := (⟨"HandshakeBindsModel", "again", "([I)V"⟩, prog_11_method_64_code, 3, none)
theorem d_Mod_again_0 : decode M_Mod_again.2.1 0 = .ok (.iconst 0, 1) := by decide +kernel
theorem d_Mod_again_1 : decode M_Mod_again.2.1 1 = .ok (.istore_n 2, 1) := by decide +kernel
theorem d_Mod_again_2 : decode M_Mod_again.2.1 2 = .ok (.iload_n 2, 1) := by decide +kernel
theorem d_Mod_again_3 : decode M_Mod_again.2.1 3 = .ok (.bipush 6, 2) := by decide +kernel
theorem d_Mod_again_5 : decode M_Mod_again.2.1 5 = .ok (.if_icmp .ge 42, 3) := by decide +kernel
theorem d_Mod_again_47 : decode M_Mod_again.2.1 47 = .ok (.iconst 0, 1) := by decide +kernel
theorem d_Mod_again_48 : decode M_Mod_again.2.1 48 = .ok (.istore_n 2, 1) := by decide +kernel
theorem d_Mod_again_49 : decode M_Mod_again.2.1 49 = .ok (.iload_n 2, 1) := by decide +kernel
theorem d_Mod_again_50 : decode M_Mod_again.2.1 50 = .ok (.bipush 24, 2) := by decide +kernel
theorem d_Mod_again_52 : decode M_Mod_again.2.1 52 = .ok (.if_icmp .ge 21, 3) := by decide +kernel
theorem d_Mod_again_73 : decode M_Mod_again.2.1 73 = .ok (.iconst 0, 1) := by decide +kernel
theorem d_Mod_again_74 : decode M_Mod_again.2.1 74 = .ok (.istore_n 2, 1) := by decide +kernel
theorem d_Mod_again_75 : decode M_Mod_again.2.1 75 = .ok (.iload_n 2, 1) := by decide +kernel
theorem d_Mod_again_76 : decode M_Mod_again.2.1 76 = .ok (.bipush 36, 2) := by decide +kernel
theorem d_Mod_again_78 : decode M_Mod_again.2.1 78 = .ok (.if_icmp .ge 21, 3) := by decide +kernel
theorem d_Mod_again_99 : decode M_Mod_again.2.1 99 = .ok (.iconst 0, 1) := by decide +kernel
theorem d_Mod_again_100 : decode M_Mod_again.2.1 100 = .ok (.istore_n 2, 1) := by decide +kernel
theorem d_Mod_again_101 : decode M_Mod_again.2.1 101 = .ok (.iload_n 2, 1) := by decide +kernel
theorem d_Mod_again_102 : decode M_Mod_again.2.1 102 = .ok (.iconst 5, 1) := by decide +kernel
theorem d_Mod_again_103 : decode M_Mod_again.2.1 103 = .ok (.if_icmp .ge 69, 3) := by decide +kernel
theorem d_Mod_again_172 : decode M_Mod_again.2.1 172 = .ok (.iconst 0, 1) := by decide +kernel
theorem d_Mod_again_173 : decode M_Mod_again.2.1 173 = .ok (.istore_n 2, 1) := by decide +kernel
theorem d_Mod_again_174 : decode M_Mod_again.2.1 174 = .ok (.iload_n 2, 1) := by decide +kernel
theorem d_Mod_again_175 : decode M_Mod_again.2.1 175 = .ok (.bipush 10, 2) := by decide +kernel
theorem d_Mod_again_177 : decode M_Mod_again.2.1 177 = .ok (.if_icmp .ge 33, 3) := by decide +kernel
theorem d_Mod_again_210 : decode M_Mod_again.2.1 210 = .ok (.iconst 0, 1) := by decide +kernel
theorem d_Mod_again_211 : decode M_Mod_again.2.1 211 = .ok (.istore_n 2, 1) := by decide +kernel
theorem d_Mod_again_212 : decode M_Mod_again.2.1 212 = .ok (.iload_n 2, 1) := by decide +kernel
theorem d_Mod_again_213 : decode M_Mod_again.2.1 213 = .ok (.bipush 8, 2) := by decide +kernel
theorem d_Mod_again_215 : decode M_Mod_again.2.1 215 = .ok (.if_icmp .ge 47, 3) := by decide +kernel
theorem d_Mod_again_262 : decode M_Mod_again.2.1 262 = .ok (.aload_n 0, 1) := by decide +kernel
theorem d_Mod_again_263 : decode M_Mod_again.2.1 263 = .ok (.aload_n 1, 1) := by decide +kernel
theorem d_Mod_again_264 : decode M_Mod_again.2.1 264 = .ok (.sipush 147, 3) := by decide +kernel
theorem d_Mod_again_267 : decode M_Mod_again.2.1 267 = .ok (.iaload, 1) := by decide +kernel
theorem d_Mod_again_268 : decode M_Mod_again.2.1 268 = .ok (.putfield 111, 3) := by decide +kernel
theorem pf_Mod_111 : PF "HandshakeBindsModel" 111 9 0 (.int) false := ⟨_, _, _, t_Mod, rfl, by decide, i_Mod, t_Mod_ok, n_Mod, inTB 850 (by decide +kernel) rfl, rfl, t_Mod_ok 0 (by decide), fun _ => rfl⟩
theorem d_Mod_again_271 : decode M_Mod_again.2.1 271 = .ok (.aload_n 0, 1) := by decide +kernel
theorem d_Mod_again_272 : decode M_Mod_again.2.1 272 = .ok (.aload_n 1, 1) := by decide +kernel
theorem d_Mod_again_273 : decode M_Mod_again.2.1 273 = .ok (.sipush 148, 3) := by decide +kernel
theorem d_Mod_again_276 : decode M_Mod_again.2.1 276 = .ok (.iaload, 1) := by decide +kernel
theorem d_Mod_again_277 : decode M_Mod_again.2.1 277 = .ok (.putfield 240, 3) := by decide +kernel
theorem pf_Mod_240 : PF "HandshakeBindsModel" 240 9 6 (.int) false := ⟨_, _, _, t_Mod, rfl, by decide, i_Mod, t_Mod_ok, n_Mod, inTB 856 (by decide +kernel) rfl, rfl, t_Mod_ok 6 (by decide), fun _ => rfl⟩
theorem d_Mod_again_280 : decode M_Mod_again.2.1 280 = .ok (.aload_n 0, 1) := by decide +kernel
theorem d_Mod_again_281 : decode M_Mod_again.2.1 281 = .ok (.aload_n 1, 1) := by decide +kernel
theorem d_Mod_again_282 : decode M_Mod_again.2.1 282 = .ok (.sipush 149, 3) := by decide +kernel
theorem d_Mod_again_285 : decode M_Mod_again.2.1 285 = .ok (.iaload, 1) := by decide +kernel
theorem d_Mod_again_286 : decode M_Mod_again.2.1 286 = .ok (.putfield 297, 3) := by decide +kernel
theorem pf_Mod_297 : PF "HandshakeBindsModel" 297 9 23 (.int) false := ⟨_, _, _, t_Mod, rfl, by decide, i_Mod, t_Mod_ok, n_Mod, inTB 873 (by decide +kernel) rfl, rfl, t_Mod_ok 23 (by decide), fun _ => rfl⟩
theorem d_Mod_again_289 : decode M_Mod_again.2.1 289 = .ok (.aload_n 0, 1) := by decide +kernel
theorem d_Mod_again_290 : decode M_Mod_again.2.1 290 = .ok (.aload_n 1, 1) := by decide +kernel
theorem d_Mod_again_291 : decode M_Mod_again.2.1 291 = .ok (.sipush 150, 3) := by decide +kernel
theorem d_Mod_again_294 : decode M_Mod_again.2.1 294 = .ok (.iaload, 1) := by decide +kernel
theorem d_Mod_again_295 : decode M_Mod_again.2.1 295 = .ok (.putfield 312, 3) := by decide +kernel
theorem pf_Mod_312 : PF "HandshakeBindsModel" 312 9 29 (.int) false := ⟨_, _, _, t_Mod, rfl, by decide, i_Mod, t_Mod_ok, n_Mod, inTB 879 (by decide +kernel) rfl, rfl, t_Mod_ok 29 (by decide), fun _ => rfl⟩
theorem d_Mod_again_298 : decode M_Mod_again.2.1 298 = .ok (.aload_n 0, 1) := by decide +kernel
theorem d_Mod_again_299 : decode M_Mod_again.2.1 299 = .ok (.aload_n 1, 1) := by decide +kernel
theorem d_Mod_again_300 : decode M_Mod_again.2.1 300 = .ok (.sipush 151, 3) := by decide +kernel
theorem d_Mod_again_303 : decode M_Mod_again.2.1 303 = .ok (.iaload, 1) := by decide +kernel
theorem d_Mod_again_304 : decode M_Mod_again.2.1 304 = .ok (.putfield 319, 3) := by decide +kernel
theorem pf_Mod_319 : PF "HandshakeBindsModel" 319 9 32 (.int) false := ⟨_, _, _, t_Mod, rfl, by decide, i_Mod, t_Mod_ok, n_Mod, inTB 882 (by decide +kernel) rfl, rfl, t_Mod_ok 32 (by decide), fun _ => rfl⟩
theorem d_Mod_again_307 : decode M_Mod_again.2.1 307 = .ok (.aload_n 0, 1) := by decide +kernel
theorem d_Mod_again_308 : decode M_Mod_again.2.1 308 = .ok (.aload_n 1, 1) := by decide +kernel
theorem d_Mod_again_309 : decode M_Mod_again.2.1 309 = .ok (.sipush 152, 3) := by decide +kernel
theorem d_Mod_again_312 : decode M_Mod_again.2.1 312 = .ok (.iaload, 1) := by decide +kernel
theorem d_Mod_again_313 : decode M_Mod_again.2.1 313 = .ok (.putfield 107, 3) := by decide +kernel
theorem pf_Mod_107 : PF "HandshakeBindsModel" 107 9 14 (.int) false := ⟨_, _, _, t_Mod, rfl, by decide, i_Mod, t_Mod_ok, n_Mod, inTB 864 (by decide +kernel) rfl, rfl, t_Mod_ok 14 (by decide), fun _ => rfl⟩
theorem d_Mod_again_316 : decode M_Mod_again.2.1 316 = .ok (.return_, 1) := by decide +kernel
theorem d_Mod_again_218 : decode M_Mod_again.2.1 218 = .ok (.aload_n 0, 1) := by decide +kernel
theorem d_Mod_again_219 : decode M_Mod_again.2.1 219 = .ok (.getfield 73, 3) := by decide +kernel
theorem d_Mod_again_222 : decode M_Mod_again.2.1 222 = .ok (.iload_n 2, 1) := by decide +kernel
theorem d_Mod_again_223 : decode M_Mod_again.2.1 223 = .ok (.aload_n 1, 1) := by decide +kernel
theorem d_Mod_again_224 : decode M_Mod_again.2.1 224 = .ok (.bipush 123, 2) := by decide +kernel
theorem d_Mod_again_226 : decode M_Mod_again.2.1 226 = .ok (.iload_n 2, 1) := by decide +kernel
theorem d_Mod_again_227 : decode M_Mod_again.2.1 227 = .ok (.iadd, 1) := by decide +kernel
theorem d_Mod_again_228 : decode M_Mod_again.2.1 228 = .ok (.iaload, 1) := by decide +kernel
theorem d_Mod_again_229 : decode M_Mod_again.2.1 229 = .ok (.iastore, 1) := by decide +kernel
theorem d_Mod_again_230 : decode M_Mod_again.2.1 230 = .ok (.aload_n 0, 1) := by decide +kernel
theorem d_Mod_again_231 : decode M_Mod_again.2.1 231 = .ok (.getfield 76, 3) := by decide +kernel
theorem d_Mod_again_234 : decode M_Mod_again.2.1 234 = .ok (.iload_n 2, 1) := by decide +kernel
theorem d_Mod_again_235 : decode M_Mod_again.2.1 235 = .ok (.aload_n 1, 1) := by decide +kernel
theorem d_Mod_again_236 : decode M_Mod_again.2.1 236 = .ok (.sipush 131, 3) := by decide +kernel
theorem d_Mod_again_239 : decode M_Mod_again.2.1 239 = .ok (.iload_n 2, 1) := by decide +kernel
theorem d_Mod_again_240 : decode M_Mod_again.2.1 240 = .ok (.iadd, 1) := by decide +kernel
theorem d_Mod_again_241 : decode M_Mod_again.2.1 241 = .ok (.iaload, 1) := by decide +kernel
theorem d_Mod_again_242 : decode M_Mod_again.2.1 242 = .ok (.iastore, 1) := by decide +kernel
theorem d_Mod_again_243 : decode M_Mod_again.2.1 243 = .ok (.aload_n 0, 1) := by decide +kernel
theorem d_Mod_again_244 : decode M_Mod_again.2.1 244 = .ok (.getfield 79, 3) := by decide +kernel
theorem d_Mod_again_247 : decode M_Mod_again.2.1 247 = .ok (.iload_n 2, 1) := by decide +kernel
theorem d_Mod_again_248 : decode M_Mod_again.2.1 248 = .ok (.aload_n 1, 1) := by decide +kernel
theorem d_Mod_again_249 : decode M_Mod_again.2.1 249 = .ok (.sipush 139, 3) := by decide +kernel
theorem d_Mod_again_252 : decode M_Mod_again.2.1 252 = .ok (.iload_n 2, 1) := by decide +kernel
theorem d_Mod_again_253 : decode M_Mod_again.2.1 253 = .ok (.iadd, 1) := by decide +kernel
theorem d_Mod_again_254 : decode M_Mod_again.2.1 254 = .ok (.iaload, 1) := by decide +kernel
theorem d_Mod_again_255 : decode M_Mod_again.2.1 255 = .ok (.iastore, 1) := by decide +kernel
theorem d_Mod_again_256 : decode M_Mod_again.2.1 256 = .ok (.iinc 2 1, 3) := by decide +kernel
theorem d_Mod_again_259 : decode M_Mod_again.2.1 259 = .ok (.goto (-47), 3) := by decide +kernel
theorem d_Mod_again_180 : decode M_Mod_again.2.1 180 = .ok (.aload_n 0, 1) := by decide +kernel
theorem d_Mod_again_181 : decode M_Mod_again.2.1 181 = .ok (.getfield 67, 3) := by decide +kernel
theorem d_Mod_again_184 : decode M_Mod_again.2.1 184 = .ok (.iload_n 2, 1) := by decide +kernel
theorem d_Mod_again_185 : decode M_Mod_again.2.1 185 = .ok (.aload_n 1, 1) := by decide +kernel
theorem d_Mod_again_186 : decode M_Mod_again.2.1 186 = .ok (.bipush 103, 2) := by decide +kernel
theorem d_Mod_again_188 : decode M_Mod_again.2.1 188 = .ok (.iload_n 2, 1) := by decide +kernel
theorem d_Mod_again_189 : decode M_Mod_again.2.1 189 = .ok (.iadd, 1) := by decide +kernel
theorem d_Mod_again_190 : decode M_Mod_again.2.1 190 = .ok (.iaload, 1) := by decide +kernel
theorem d_Mod_again_191 : decode M_Mod_again.2.1 191 = .ok (.iastore, 1) := by decide +kernel
theorem d_Mod_again_192 : decode M_Mod_again.2.1 192 = .ok (.aload_n 0, 1) := by decide +kernel
theorem d_Mod_again_193 : decode M_Mod_again.2.1 193 = .ok (.getfield 70, 3) := by decide +kernel
theorem d_Mod_again_196 : decode M_Mod_again.2.1 196 = .ok (.iload_n 2, 1) := by decide +kernel
theorem d_Mod_again_197 : decode M_Mod_again.2.1 197 = .ok (.aload_n 1, 1) := by decide +kernel
theorem d_Mod_again_198 : decode M_Mod_again.2.1 198 = .ok (.bipush 113, 2) := by decide +kernel
theorem d_Mod_again_200 : decode M_Mod_again.2.1 200 = .ok (.iload_n 2, 1) := by decide +kernel
theorem d_Mod_again_201 : decode M_Mod_again.2.1 201 = .ok (.iadd, 1) := by decide +kernel
theorem d_Mod_again_202 : decode M_Mod_again.2.1 202 = .ok (.iaload, 1) := by decide +kernel
theorem d_Mod_again_203 : decode M_Mod_again.2.1 203 = .ok (.iastore, 1) := by decide +kernel
theorem d_Mod_again_204 : decode M_Mod_again.2.1 204 = .ok (.iinc 2 1, 3) := by decide +kernel
theorem d_Mod_again_207 : decode M_Mod_again.2.1 207 = .ok (.goto (-33), 3) := by decide +kernel
theorem d_Mod_again_106 : decode M_Mod_again.2.1 106 = .ok (.aload_n 0, 1) := by decide +kernel
theorem d_Mod_again_107 : decode M_Mod_again.2.1 107 = .ok (.getfield 52, 3) := by decide +kernel
theorem d_Mod_again_110 : decode M_Mod_again.2.1 110 = .ok (.iload_n 2, 1) := by decide +kernel
theorem d_Mod_again_111 : decode M_Mod_again.2.1 111 = .ok (.aload_n 1, 1) := by decide +kernel
theorem d_Mod_again_112 : decode M_Mod_again.2.1 112 = .ok (.bipush 78, 2) := by decide +kernel
theorem d_Mod_again_114 : decode M_Mod_again.2.1 114 = .ok (.iload_n 2, 1) := by decide +kernel
theorem d_Mod_again_115 : decode M_Mod_again.2.1 115 = .ok (.iadd, 1) := by decide +kernel
theorem d_Mod_again_116 : decode M_Mod_again.2.1 116 = .ok (.iaload, 1) := by decide +kernel
theorem d_Mod_again_117 : decode M_Mod_again.2.1 117 = .ok (.iastore, 1) := by decide +kernel
theorem d_Mod_again_118 : decode M_Mod_again.2.1 118 = .ok (.aload_n 0, 1) := by decide +kernel
theorem d_Mod_again_119 : decode M_Mod_again.2.1 119 = .ok (.getfield 55, 3) := by decide +kernel
theorem d_Mod_again_122 : decode M_Mod_again.2.1 122 = .ok (.iload_n 2, 1) := by decide +kernel
theorem d_Mod_again_123 : decode M_Mod_again.2.1 123 = .ok (.aload_n 1, 1) := by decide +kernel
theorem d_Mod_again_124 : decode M_Mod_again.2.1 124 = .ok (.bipush 83, 2) := by decide +kernel
theorem d_Mod_again_126 : decode M_Mod_again.2.1 126 = .ok (.iload_n 2, 1) := by decide +kernel
theorem d_Mod_again_127 : decode M_Mod_again.2.1 127 = .ok (.iadd, 1) := by decide +kernel
theorem d_Mod_again_128 : decode M_Mod_again.2.1 128 = .ok (.iaload, 1) := by decide +kernel
theorem d_Mod_again_129 : decode M_Mod_again.2.1 129 = .ok (.iastore, 1) := by decide +kernel
theorem d_Mod_again_130 : decode M_Mod_again.2.1 130 = .ok (.aload_n 0, 1) := by decide +kernel
theorem d_Mod_again_131 : decode M_Mod_again.2.1 131 = .ok (.getfield 58, 3) := by decide +kernel
theorem d_Mod_again_134 : decode M_Mod_again.2.1 134 = .ok (.iload_n 2, 1) := by decide +kernel
theorem d_Mod_again_135 : decode M_Mod_again.2.1 135 = .ok (.aload_n 1, 1) := by decide +kernel
theorem d_Mod_again_136 : decode M_Mod_again.2.1 136 = .ok (.bipush 88, 2) := by decide +kernel
theorem d_Mod_again_138 : decode M_Mod_again.2.1 138 = .ok (.iload_n 2, 1) := by decide +kernel
theorem d_Mod_again_139 : decode M_Mod_again.2.1 139 = .ok (.iadd, 1) := by decide +kernel
theorem d_Mod_again_140 : decode M_Mod_again.2.1 140 = .ok (.iaload, 1) := by decide +kernel
theorem d_Mod_again_141 : decode M_Mod_again.2.1 141 = .ok (.iastore, 1) := by decide +kernel
theorem d_Mod_again_142 : decode M_Mod_again.2.1 142 = .ok (.aload_n 0, 1) := by decide +kernel
theorem d_Mod_again_143 : decode M_Mod_again.2.1 143 = .ok (.getfield 61, 3) := by decide +kernel
theorem d_Mod_again_146 : decode M_Mod_again.2.1 146 = .ok (.iload_n 2, 1) := by decide +kernel
theorem d_Mod_again_147 : decode M_Mod_again.2.1 147 = .ok (.aload_n 1, 1) := by decide +kernel
theorem d_Mod_again_148 : decode M_Mod_again.2.1 148 = .ok (.bipush 93, 2) := by decide +kernel
theorem d_Mod_again_150 : decode M_Mod_again.2.1 150 = .ok (.iload_n 2, 1) := by decide +kernel
theorem d_Mod_again_151 : decode M_Mod_again.2.1 151 = .ok (.iadd, 1) := by decide +kernel
theorem d_Mod_again_152 : decode M_Mod_again.2.1 152 = .ok (.iaload, 1) := by decide +kernel
theorem d_Mod_again_153 : decode M_Mod_again.2.1 153 = .ok (.iastore, 1) := by decide +kernel
theorem d_Mod_again_154 : decode M_Mod_again.2.1 154 = .ok (.aload_n 0, 1) := by decide +kernel
theorem d_Mod_again_155 : decode M_Mod_again.2.1 155 = .ok (.getfield 64, 3) := by decide +kernel
theorem d_Mod_again_158 : decode M_Mod_again.2.1 158 = .ok (.iload_n 2, 1) := by decide +kernel
theorem d_Mod_again_159 : decode M_Mod_again.2.1 159 = .ok (.aload_n 1, 1) := by decide +kernel
theorem d_Mod_again_160 : decode M_Mod_again.2.1 160 = .ok (.bipush 98, 2) := by decide +kernel
theorem d_Mod_again_162 : decode M_Mod_again.2.1 162 = .ok (.iload_n 2, 1) := by decide +kernel
theorem d_Mod_again_163 : decode M_Mod_again.2.1 163 = .ok (.iadd, 1) := by decide +kernel
theorem d_Mod_again_164 : decode M_Mod_again.2.1 164 = .ok (.iaload, 1) := by decide +kernel
theorem d_Mod_again_165 : decode M_Mod_again.2.1 165 = .ok (.iastore, 1) := by decide +kernel
theorem d_Mod_again_166 : decode M_Mod_again.2.1 166 = .ok (.iinc 2 1, 3) := by decide +kernel
theorem d_Mod_again_169 : decode M_Mod_again.2.1 169 = .ok (.goto (-68), 3) := by decide +kernel
theorem d_Mod_again_81 : decode M_Mod_again.2.1 81 = .ok (.aload_n 0, 1) := by decide +kernel
theorem d_Mod_again_82 : decode M_Mod_again.2.1 82 = .ok (.getfield 24, 3) := by decide +kernel
theorem d_Mod_again_85 : decode M_Mod_again.2.1 85 = .ok (.iload_n 2, 1) := by decide +kernel
theorem d_Mod_again_86 : decode M_Mod_again.2.1 86 = .ok (.aload_n 1, 1) := by decide +kernel
theorem d_Mod_again_87 : decode M_Mod_again.2.1 87 = .ok (.bipush 42, 2) := by decide +kernel
theorem d_Mod_again_89 : decode M_Mod_again.2.1 89 = .ok (.iload_n 2, 1) := by decide +kernel
theorem d_Mod_again_90 : decode M_Mod_again.2.1 90 = .ok (.iadd, 1) := by decide +kernel
theorem d_Mod_again_91 : decode M_Mod_again.2.1 91 = .ok (.iaload, 1) := by decide +kernel
theorem d_Mod_again_92 : decode M_Mod_again.2.1 92 = .ok (.iastore, 1) := by decide +kernel
theorem d_Mod_again_93 : decode M_Mod_again.2.1 93 = .ok (.iinc 2 1, 3) := by decide +kernel
theorem d_Mod_again_96 : decode M_Mod_again.2.1 96 = .ok (.goto (-21), 3) := by decide +kernel
theorem d_Mod_again_55 : decode M_Mod_again.2.1 55 = .ok (.aload_n 0, 1) := by decide +kernel
theorem d_Mod_again_56 : decode M_Mod_again.2.1 56 = .ok (.getfield 21, 3) := by decide +kernel
theorem d_Mod_again_59 : decode M_Mod_again.2.1 59 = .ok (.iload_n 2, 1) := by decide +kernel
theorem d_Mod_again_60 : decode M_Mod_again.2.1 60 = .ok (.aload_n 1, 1) := by decide +kernel
theorem d_Mod_again_61 : decode M_Mod_again.2.1 61 = .ok (.bipush 18, 2) := by decide +kernel
theorem d_Mod_again_63 : decode M_Mod_again.2.1 63 = .ok (.iload_n 2, 1) := by decide +kernel
theorem d_Mod_again_64 : decode M_Mod_again.2.1 64 = .ok (.iadd, 1) := by decide +kernel
theorem d_Mod_again_65 : decode M_Mod_again.2.1 65 = .ok (.iaload, 1) := by decide +kernel
theorem d_Mod_again_66 : decode M_Mod_again.2.1 66 = .ok (.iastore, 1) := by decide +kernel
theorem d_Mod_again_67 : decode M_Mod_again.2.1 67 = .ok (.iinc 2 1, 3) := by decide +kernel
theorem d_Mod_again_70 : decode M_Mod_again.2.1 70 = .ok (.goto (-21), 3) := by decide +kernel
theorem d_Mod_again_8 : decode M_Mod_again.2.1 8 = .ok (.aload_n 0, 1) := by decide +kernel
theorem d_Mod_again_9 : decode M_Mod_again.2.1 9 = .ok (.getfield 9, 3) := by decide +kernel
theorem d_Mod_again_12 : decode M_Mod_again.2.1 12 = .ok (.iload_n 2, 1) := by decide +kernel
theorem d_Mod_again_13 : decode M_Mod_again.2.1 13 = .ok (.aload_n 1, 1) := by decide +kernel
theorem d_Mod_again_14 : decode M_Mod_again.2.1 14 = .ok (.iload_n 2, 1) := by decide +kernel
theorem d_Mod_again_15 : decode M_Mod_again.2.1 15 = .ok (.iaload, 1) := by decide +kernel
theorem d_Mod_again_16 : decode M_Mod_again.2.1 16 = .ok (.iastore, 1) := by decide +kernel
theorem d_Mod_again_17 : decode M_Mod_again.2.1 17 = .ok (.aload_n 0, 1) := by decide +kernel
theorem d_Mod_again_18 : decode M_Mod_again.2.1 18 = .ok (.getfield 15, 3) := by decide +kernel
theorem d_Mod_again_21 : decode M_Mod_again.2.1 21 = .ok (.iload_n 2, 1) := by decide +kernel
theorem d_Mod_again_22 : decode M_Mod_again.2.1 22 = .ok (.aload_n 1, 1) := by decide +kernel
theorem d_Mod_again_23 : decode M_Mod_again.2.1 23 = .ok (.bipush 6, 2) := by decide +kernel
theorem d_Mod_again_25 : decode M_Mod_again.2.1 25 = .ok (.iload_n 2, 1) := by decide +kernel
theorem d_Mod_again_26 : decode M_Mod_again.2.1 26 = .ok (.iadd, 1) := by decide +kernel
theorem d_Mod_again_27 : decode M_Mod_again.2.1 27 = .ok (.iaload, 1) := by decide +kernel
theorem d_Mod_again_28 : decode M_Mod_again.2.1 28 = .ok (.iastore, 1) := by decide +kernel
theorem d_Mod_again_29 : decode M_Mod_again.2.1 29 = .ok (.aload_n 0, 1) := by decide +kernel
theorem d_Mod_again_30 : decode M_Mod_again.2.1 30 = .ok (.getfield 18, 3) := by decide +kernel
theorem d_Mod_again_33 : decode M_Mod_again.2.1 33 = .ok (.iload_n 2, 1) := by decide +kernel
theorem d_Mod_again_34 : decode M_Mod_again.2.1 34 = .ok (.aload_n 1, 1) := by decide +kernel
theorem d_Mod_again_35 : decode M_Mod_again.2.1 35 = .ok (.bipush 12, 2) := by decide +kernel
theorem d_Mod_again_37 : decode M_Mod_again.2.1 37 = .ok (.iload_n 2, 1) := by decide +kernel
theorem d_Mod_again_38 : decode M_Mod_again.2.1 38 = .ok (.iadd, 1) := by decide +kernel
theorem d_Mod_again_39 : decode M_Mod_again.2.1 39 = .ok (.iaload, 1) := by decide +kernel
theorem d_Mod_again_40 : decode M_Mod_again.2.1 40 = .ok (.iastore, 1) := by decide +kernel
theorem d_Mod_again_41 : decode M_Mod_again.2.1 41 = .ok (.iinc 2 1, 3) := by decide +kernel
theorem d_Mod_again_44 : decode M_Mod_again.2.1 44 = .ok (.goto (-42), 3) := by decide +kernel
def M_JInt_bitCount : XM := (⟨"java/lang/Integer", "bitCount", "(I)I"⟩, prog_13_method_49_code, 1, (some .int))
theorem d_JInt_bitCount_0 : decode M_JInt_bitCount.2.1 0 = .ok (.iload_n 0, 1) := by decide +kernel
theorem d_JInt_bitCount_1 : decode M_JInt_bitCount.2.1 1 = .ok (.iload_n 0, 1) := by decide +kernel
theorem d_JInt_bitCount_2 : decode M_JInt_bitCount.2.1 2 = .ok (.iconst 1, 1) := by decide +kernel
theorem d_JInt_bitCount_3 : decode M_JInt_bitCount.2.1 3 = .ok (.iushr, 1) := by decide +kernel
theorem d_JInt_bitCount_4 : decode M_JInt_bitCount.2.1 4 = .ok (.ldc_w 265, 3) := by decide +kernel
theorem d_JInt_bitCount_7 : decode M_JInt_bitCount.2.1 7 = .ok (.iand, 1) := by decide +kernel
theorem d_JInt_bitCount_8 : decode M_JInt_bitCount.2.1 8 = .ok (.isub, 1) := by decide +kernel
theorem d_JInt_bitCount_9 : decode M_JInt_bitCount.2.1 9 = .ok (.istore_n 0, 1) := by decide +kernel
theorem d_JInt_bitCount_10 : decode M_JInt_bitCount.2.1 10 = .ok (.iload_n 0, 1) := by decide +kernel
theorem d_JInt_bitCount_11 : decode M_JInt_bitCount.2.1 11 = .ok (.ldc_w 266, 3) := by decide +kernel
theorem d_JInt_bitCount_14 : decode M_JInt_bitCount.2.1 14 = .ok (.iand, 1) := by decide +kernel
theorem d_JInt_bitCount_15 : decode M_JInt_bitCount.2.1 15 = .ok (.iload_n 0, 1) := by decide +kernel
theorem d_JInt_bitCount_16 : decode M_JInt_bitCount.2.1 16 = .ok (.iconst 2, 1) := by decide +kernel
theorem d_JInt_bitCount_17 : decode M_JInt_bitCount.2.1 17 = .ok (.iushr, 1) := by decide +kernel
theorem d_JInt_bitCount_18 : decode M_JInt_bitCount.2.1 18 = .ok (.ldc_w 266, 3) := by decide +kernel
theorem d_JInt_bitCount_21 : decode M_JInt_bitCount.2.1 21 = .ok (.iand, 1) := by decide +kernel
theorem d_JInt_bitCount_22 : decode M_JInt_bitCount.2.1 22 = .ok (.iadd, 1) := by decide +kernel
theorem d_JInt_bitCount_23 : decode M_JInt_bitCount.2.1 23 = .ok (.istore_n 0, 1) := by decide +kernel
theorem d_JInt_bitCount_24 : decode M_JInt_bitCount.2.1 24 = .ok (.iload_n 0, 1) := by decide +kernel
theorem d_JInt_bitCount_25 : decode M_JInt_bitCount.2.1 25 = .ok (.iload_n 0, 1) := by decide +kernel
theorem d_JInt_bitCount_26 : decode M_JInt_bitCount.2.1 26 = .ok (.iconst 4, 1) := by decide +kernel
theorem d_JInt_bitCount_27 : decode M_JInt_bitCount.2.1 27 = .ok (.iushr, 1) := by decide +kernel
theorem d_JInt_bitCount_28 : decode M_JInt_bitCount.2.1 28 = .ok (.iadd, 1) := by decide +kernel
theorem d_JInt_bitCount_29 : decode M_JInt_bitCount.2.1 29 = .ok (.ldc_w 267, 3) := by decide +kernel
theorem d_JInt_bitCount_32 : decode M_JInt_bitCount.2.1 32 = .ok (.iand, 1) := by decide +kernel
theorem d_JInt_bitCount_33 : decode M_JInt_bitCount.2.1 33 = .ok (.istore_n 0, 1) := by decide +kernel
theorem d_JInt_bitCount_34 : decode M_JInt_bitCount.2.1 34 = .ok (.iload_n 0, 1) := by decide +kernel
theorem d_JInt_bitCount_35 : decode M_JInt_bitCount.2.1 35 = .ok (.iload_n 0, 1) := by decide +kernel
theorem d_JInt_bitCount_36 : decode M_JInt_bitCount.2.1 36 = .ok (.bipush 8, 2) := by decide +kernel
theorem d_JInt_bitCount_38 : decode M_JInt_bitCount.2.1 38 = .ok (.iushr, 1) := by decide +kernel
theorem d_JInt_bitCount_39 : decode M_JInt_bitCount.2.1 39 = .ok (.iadd, 1) := by decide +kernel
theorem d_JInt_bitCount_40 : decode M_JInt_bitCount.2.1 40 = .ok (.istore_n 0, 1) := by decide +kernel
theorem d_JInt_bitCount_41 : decode M_JInt_bitCount.2.1 41 = .ok (.iload_n 0, 1) := by decide +kernel
theorem d_JInt_bitCount_42 : decode M_JInt_bitCount.2.1 42 = .ok (.iload_n 0, 1) := by decide +kernel
theorem d_JInt_bitCount_43 : decode M_JInt_bitCount.2.1 43 = .ok (.bipush 16, 2) := by decide +kernel
theorem d_JInt_bitCount_45 : decode M_JInt_bitCount.2.1 45 = .ok (.iushr, 1) := by decide +kernel
theorem d_JInt_bitCount_46 : decode M_JInt_bitCount.2.1 46 = .ok (.iadd, 1) := by decide +kernel
theorem d_JInt_bitCount_47 : decode M_JInt_bitCount.2.1 47 = .ok (.istore_n 0, 1) := by decide +kernel
theorem d_JInt_bitCount_48 : decode M_JInt_bitCount.2.1 48 = .ok (.iload_n 0, 1) := by decide +kernel
theorem d_JInt_bitCount_49 : decode M_JInt_bitCount.2.1 49 = .ok (.bipush 63, 2) := by decide +kernel
theorem d_JInt_bitCount_51 : decode M_JInt_bitCount.2.1 51 = .ok (.iand, 1) := by decide +kernel
theorem d_JInt_bitCount_52 : decode M_JInt_bitCount.2.1 52 = .ok (.ireturn, 1) := by decide +kernel
theorem c_Mod_keep39 (X : Xn) (a ν : Nat → Nat) (σ : Nat → Nat → Int32) (τ : Nat → Int64)  : Does X 1 M_Mod_keep [.ref (a 0), .ref (a 39)] (MW X a ν σ τ) 0 0 (fun (vv : Option Value) (ww : va_W) => vv = none ∧ ww = MW X a ν (u2 σ 39 (keepF ν σ (σ 39))) τ) := by
  generalize hQ : (fun (vv : Option Value) (ww : va_W) => vv = none ∧ ww = MW X a ν (u2 σ 39 (keepF ν σ (σ 39))) τ) = Q
  refine Does.go rfl (Nat.le_of_ble_eq_true rfl) [some (.ref (a 0)), some (.ref (a 39)), none] 1 rfl ?_
  refine r_iconst (nI 0) rfl 1 rfl d_Mod_keep_0 ?_
  refine r_istore_n (ls2 := [some (.ref (a 0)), some (.ref (a 39)), some (.int (nI 0))]) 2 rfl d_Mod_keep_1 (by decide) rfl rfl ?_
  have L2_1 : ∀ (f : Nat) (i1 : Nat), (i1 ≤ 6) → 6 - i1 < f → Runs X 1 M_Mod_keep 0 0 Q 2 [some (.ref (a 0)), some (.ref (a 39)), some (.int (nI i1))] [] 0 0 (MW X a ν (u2 σ 39 (kA σ (σ 39) i1)) τ) := by
    intro f
    induction f with
    | zero => intro i1 hi1 hmu; exact absurd hmu (Nat.not_lt_zero _)
    | succ f ih2 =>
      intro i1 hi1 hmu
      refine r_iload_n rfl 3 rfl d_Mod_keep_2 ?_
      refine r_bipush (nI 6) rfl 5 rfl d_Mod_keep_3 ?_
      refine r_icmp_geN i1 6 (by omega) (by omega) 8 47 rfl rfl d_Mod_keep_5 (fun h5 => ?_) (fun h5 => ?_)
      · refine r_iconst (nI 0) rfl 48 rfl d_Mod_keep_47 ?_
        refine r_istore_n (ls2 := [some (.ref (a 0)), some (.ref (a 39)), some (.int (nI 0))]) 49 rfl d_Mod_keep_48 (by decide) rfl rfl ?_
        have L49_3 : ∀ (f : Nat) (i2 : Nat), (i2 ≤ 24) → 24 - i2 < f → Runs X 1 M_Mod_keep 0 0 Q 49 [some (.ref (a 0)), some (.ref (a 39)), some (.int (nI i2))] [] 0 0 (MW X a ν (u2 σ 39 (kB σ (σ 39) i2)) τ) := by
          intro f
          induction f with
          | zero => intro i2 hi2 hmu; exact absurd hmu (Nat.not_lt_zero _)
          | succ f ih4 =>
            intro i2 hi2 hmu
            refine r_iload_n rfl 50 rfl d_Mod_keep_49 ?_
            refine r_bipush (nI 24) rfl 52 rfl d_Mod_keep_50 ?_
            refine r_icmp_geN i2 24 (by omega) (by omega) 55 73 rfl rfl d_Mod_keep_52 (fun h52 => ?_) (fun h52 => ?_)
            · refine r_iconst (nI 0) rfl 74 rfl d_Mod_keep_73 ?_
              refine r_istore_n (ls2 := [some (.ref (a 0)), some (.ref (a 39)), some (.int (nI 0))]) 75 rfl d_Mod_keep_74 (by decide) rfl rfl ?_
              have L75_5 : ∀ (f : Nat) (i3 : Nat), (i3 ≤ 36) → 36 - i3 < f → Runs X 1 M_Mod_keep 0 0 Q 75 [some (.ref (a 0)), some (.ref (a 39)), some (.int (nI i3))] [] 0 0 (MW X a ν (u2 σ 39 (kC σ (σ 39) i3)) τ) := by
                intro f
                induction f with
                | zero => intro i3 hi3 hmu; exact absurd hmu (Nat.not_lt_zero _)
                | succ f ih6 =>
                  intro i3 hi3 hmu
                  refine r_iload_n rfl 76 rfl d_Mod_keep_75 ?_
                  refine r_bipush (nI 36) rfl 78 rfl d_Mod_keep_76 ?_
                  refine r_icmp_geN i3 36 (by omega) (by omega) 81 99 rfl rfl d_Mod_keep_78 (fun h78 => ?_) (fun h78 => ?_)
                  · refine r_iconst (nI 0) rfl 100 rfl d_Mod_keep_99 ?_
                    refine r_istore_n (ls2 := [some (.ref (a 0)), some (.ref (a 39)), some (.int (nI 0))]) 101 rfl d_Mod_keep_100 (by decide) rfl rfl ?_
                    have L101_7 : ∀ (f : Nat) (i4 : Nat), (i4 ≤ 5) → 5 - i4 < f → Runs X 1 M_Mod_keep 0 0 Q 101 [some (.ref (a 0)), some (.ref (a 39)), some (.int (nI i4))] [] 0 0 (MW X a ν (u2 σ 39 (kD σ (σ 39) i4)) τ) := by
                      intro f
                      induction f with
                      | zero => intro i4 hi4 hmu; exact absurd hmu (Nat.not_lt_zero _)
                      | succ f ih8 =>
                        intro i4 hi4 hmu
                        refine r_iload_n rfl 102 rfl d_Mod_keep_101 ?_
                        refine r_iconst (nI 5) rfl 103 rfl d_Mod_keep_102 ?_
                        refine r_icmp_geN i4 5 (by omega) (by omega) 106 172 rfl rfl d_Mod_keep_103 (fun h103 => ?_) (fun h103 => ?_)
                        · refine r_iconst (nI 0) rfl 173 rfl d_Mod_keep_172 ?_
                          refine r_istore_n (ls2 := [some (.ref (a 0)), some (.ref (a 39)), some (.int (nI 0))]) 174 rfl d_Mod_keep_173 (by decide) rfl rfl ?_
                          have L174_9 : ∀ (f : Nat) (i5 : Nat), (i5 ≤ 10) → 10 - i5 < f → Runs X 1 M_Mod_keep 0 0 Q 174 [some (.ref (a 0)), some (.ref (a 39)), some (.int (nI i5))] [] 0 0 (MW X a ν (u2 σ 39 (kE σ (σ 39) i5)) τ) := by
                            intro f
                            induction f with
                            | zero => intro i5 hi5 hmu; exact absurd hmu (Nat.not_lt_zero _)
                            | succ f ih10 =>
                              intro i5 hi5 hmu
                              refine r_iload_n rfl 175 rfl d_Mod_keep_174 ?_
                              refine r_bipush (nI 10) rfl 177 rfl d_Mod_keep_175 ?_
                              refine r_icmp_geN i5 10 (by omega) (by omega) 180 210 rfl rfl d_Mod_keep_177 (fun h177 => ?_) (fun h177 => ?_)
                              · refine r_iconst (nI 0) rfl 211 rfl d_Mod_keep_210 ?_
                                refine r_istore_n (ls2 := [some (.ref (a 0)), some (.ref (a 39)), some (.int (nI 0))]) 212 rfl d_Mod_keep_211 (by decide) rfl rfl ?_
                                have L212_11 : ∀ (f : Nat) (i6 : Nat), (i6 ≤ 8) → 8 - i6 < f → Runs X 1 M_Mod_keep 0 0 Q 212 [some (.ref (a 0)), some (.ref (a 39)), some (.int (nI i6))] [] 0 0 (MW X a ν (u2 σ 39 (kF σ (σ 39) i6)) τ) := by
                                  intro f
                                  induction f with
                                  | zero => intro i6 hi6 hmu; exact absurd hmu (Nat.not_lt_zero _)
                                  | succ f ih12 =>
                                    intro i6 hi6 hmu
                                    refine r_iload_n rfl 213 rfl d_Mod_keep_212 ?_
                                    refine r_bipush (nI 8) rfl 215 rfl d_Mod_keep_213 ?_
                                    refine r_icmp_geN i6 8 (by omega) (by omega) 218 262 rfl rfl d_Mod_keep_215 (fun h215 => ?_) (fun h215 => ?_)
                                    · refine r_aload_n rfl 263 rfl d_Mod_keep_262 ?_
                                      refine r_sipush (nI 147) rfl 266 rfl d_Mod_keep_263 ?_
                                      refine r_aload_n rfl 267 rfl d_Mod_keep_266 ?_
                                      refine r_getf (v := .int (nI (ν 0))) gf_Mod_111 0 rfl rfl 270 rfl d_Mod_keep_267 ?_
                                      refine r_iast (w2 := MW X a ν (u2 (u2 σ 39 (kF σ (σ 39) i6)) 39 (upd (kF σ (σ 39) i6) 147 (nI (ν 0)))) τ) 25 rfl 147 rfl (by omega) (by omega) rfl 271 rfl d_Mod_keep_270 ?_
                                      refine r_aload_n rfl 272 rfl d_Mod_keep_271 ?_
                                      refine r_sipush (nI 148) rfl 275 rfl d_Mod_keep_272 ?_
                                      refine r_aload_n rfl 276 rfl d_Mod_keep_275 ?_
                                      refine r_getf (v := .int (nI (ν 6))) gf_Mod_240 0 rfl rfl 279 rfl d_Mod_keep_276 ?_
                                      refine r_iast (w2 := MW X a ν (u2 (u2 (u2 σ 39 (kF σ (σ 39) i6)) 39 (upd (kF σ (σ 39) i6) 147 (nI (ν 0)))) 39 (upd (upd (kF σ (σ 39) i6) 147 (nI (ν 0))) 148 (nI (ν 6)))) τ) 25 rfl 148 rfl (by omega) (by omega) rfl 280 rfl d_Mod_keep_279 ?_
                                      refine r_aload_n rfl 281 rfl d_Mod_keep_280 ?_
                                      refine r_sipush (nI 149) rfl 284 rfl d_Mod_keep_281 ?_
                                      refine r_aload_n rfl 285 rfl d_Mod_keep_284 ?_
                                      refine r_getf (v := .int (nI (ν 23))) gf_Mod_297 0 rfl rfl 288 rfl d_Mod_keep_285 ?_
                                      refine r_iast (w2 := MW X a ν (u2 (u2 (u2 (u2 σ 39 (kF σ (σ 39) i6)) 39 (upd (kF σ (σ 39) i6) 147 (nI (ν 0)))) 39 (upd (upd (kF σ (σ 39) i6) 147 (nI (ν 0))) 148 (nI (ν 6)))) 39 (upd (upd (upd (kF σ (σ 39) i6) 147 (nI (ν 0))) 148 (nI (ν 6))) 149 (nI (ν 23)))) τ) 25 rfl 149 rfl (by omega) (by omega) rfl 289 rfl d_Mod_keep_288 ?_
                                      refine r_aload_n rfl 290 rfl d_Mod_keep_289 ?_
                                      refine r_sipush (nI 150) rfl 293 rfl d_Mod_keep_290 ?_
                                      refine r_aload_n rfl 294 rfl d_Mod_keep_293 ?_
                                      refine r_getf (v := .int (nI (ν 29))) gf_Mod_312 0 rfl rfl 297 rfl d_Mod_keep_294 ?_
                                      refine r_iast (w2 := MW X a ν (u2 (u2 (u2 (u2 (u2 σ 39 (kF σ (σ 39) i6)) 39 (upd (kF σ (σ 39) i6) 147 (nI (ν 0)))) 39 (upd (upd (kF σ (σ 39) i6) 147 (nI (ν 0))) 148 (nI (ν 6)))) 39 (upd (upd (upd (kF σ (σ 39) i6) 147 (nI (ν 0))) 148 (nI (ν 6))) 149 (nI (ν 23)))) 39 (upd (upd (upd (upd (kF σ (σ 39) i6) 147 (nI (ν 0))) 148 (nI (ν 6))) 149 (nI (ν 23))) 150 (nI (ν 29)))) τ) 25 rfl 150 rfl (by omega) (by omega) rfl 298 rfl d_Mod_keep_297 ?_
                                      refine r_aload_n rfl 299 rfl d_Mod_keep_298 ?_
                                      refine r_sipush (nI 151) rfl 302 rfl d_Mod_keep_299 ?_
                                      refine r_aload_n rfl 303 rfl d_Mod_keep_302 ?_
                                      refine r_getf (v := .int (nI (ν 32))) gf_Mod_319 0 rfl rfl 306 rfl d_Mod_keep_303 ?_
                                      refine r_iast (w2 := MW X a ν (u2 (u2 (u2 (u2 (u2 (u2 σ 39 (kF σ (σ 39) i6)) 39 (upd (kF σ (σ 39) i6) 147 (nI (ν 0)))) 39 (upd (upd (kF σ (σ 39) i6) 147 (nI (ν 0))) 148 (nI (ν 6)))) 39 (upd (upd (upd (kF σ (σ 39) i6) 147 (nI (ν 0))) 148 (nI (ν 6))) 149 (nI (ν 23)))) 39 (upd (upd (upd (upd (kF σ (σ 39) i6) 147 (nI (ν 0))) 148 (nI (ν 6))) 149 (nI (ν 23))) 150 (nI (ν 29)))) 39 (upd (upd (upd (upd (upd (kF σ (σ 39) i6) 147 (nI (ν 0))) 148 (nI (ν 6))) 149 (nI (ν 23))) 150 (nI (ν 29))) 151 (nI (ν 32)))) τ) 25 rfl 151 rfl (by omega) (by omega) rfl 307 rfl d_Mod_keep_306 ?_
                                      refine r_aload_n rfl 308 rfl d_Mod_keep_307 ?_
                                      refine r_sipush (nI 152) rfl 311 rfl d_Mod_keep_308 ?_
                                      refine r_aload_n rfl 312 rfl d_Mod_keep_311 ?_
                                      refine r_getf (v := .int (σ 14 0)) gf_Mod_107 0 rfl rfl 315 rfl d_Mod_keep_312 ?_
                                      refine r_iast (w2 := MW X a ν (u2 (u2 (u2 (u2 (u2 (u2 (u2 σ 39 (kF σ (σ 39) i6)) 39 (upd (kF σ (σ 39) i6) 147 (nI (ν 0)))) 39 (upd (upd (kF σ (σ 39) i6) 147 (nI (ν 0))) 148 (nI (ν 6)))) 39 (upd (upd (upd (kF σ (σ 39) i6) 147 (nI (ν 0))) 148 (nI (ν 6))) 149 (nI (ν 23)))) 39 (upd (upd (upd (upd (kF σ (σ 39) i6) 147 (nI (ν 0))) 148 (nI (ν 6))) 149 (nI (ν 23))) 150 (nI (ν 29)))) 39 (upd (upd (upd (upd (upd (kF σ (σ 39) i6) 147 (nI (ν 0))) 148 (nI (ν 6))) 149 (nI (ν 23))) 150 (nI (ν 29))) 151 (nI (ν 32)))) 39 (upd (upd (upd (upd (upd (upd (kF σ (σ 39) i6) 147 (nI (ν 0))) 148 (nI (ν 6))) 149 (nI (ν 23))) 150 (nI (ν 29))) 151 (nI (ν 32))) 152 (σ 14 0))) τ) 25 rfl 152 rfl (by omega) (by omega) rfl 316 rfl d_Mod_keep_315 ?_
                                      exact r_vret rfl (Nat.zero_le _) (Nat.zero_le _) d_Mod_keep_316 (by rw [← hQ]; exact ⟨rfl, by rw [show i6 = 8 by omega]; simp only [u2_u2]; rfl⟩)
                                    · refine r_aload_n rfl 219 rfl d_Mod_keep_218 ?_
                                      refine r_bipush (nI 123) rfl 221 rfl d_Mod_keep_219 ?_
                                      refine r_iload_n rfl 222 rfl d_Mod_keep_221 ?_
                                      refine r_iadd 223 rfl d_Mod_keep_222 ?_
                                      refine r_topi (nI (123 + i6)) (nI_add _ _) ?_
                                      refine r_aload_n rfl 224 rfl d_Mod_keep_223 ?_
                                      refine r_getf (v := .ref (a 33)) gf_Mod_73 0 rfl rfl 227 rfl d_Mod_keep_224 ?_
                                      refine r_iload_n rfl 228 rfl d_Mod_keep_227 ?_
                                      refine r_iald 21 rfl i6 rfl (by omega) (by omega) 229 rfl d_Mod_keep_228 ?_
                                      refine r_iast (w2 := MW X a ν (u2 (u2 σ 39 (kF σ (σ 39) i6)) 39 (upd (kF σ (σ 39) i6) (123 + i6) (σ 33 i6))) τ) 25 rfl (123 + i6) rfl (by omega) (by omega) rfl 230 rfl d_Mod_keep_229 ?_
                                      refine r_aload_n rfl 231 rfl d_Mod_keep_230 ?_
                                      refine r_sipush (nI 131) rfl 234 rfl d_Mod_keep_231 ?_
                                      refine r_iload_n rfl 235 rfl d_Mod_keep_234 ?_
                                      refine r_iadd 236 rfl d_Mod_keep_235 ?_
                                      refine r_topi (nI (131 + i6)) (nI_add _ _) ?_
                                      refine r_aload_n rfl 237 rfl d_Mod_keep_236 ?_
                                      refine r_getf (v := .ref (a 34)) gf_Mod_76 0 rfl rfl 240 rfl d_Mod_keep_237 ?_
                                      refine r_iload_n rfl 241 rfl d_Mod_keep_240 ?_
                                      refine r_iald 22 rfl i6 rfl (by omega) (by omega) 242 rfl d_Mod_keep_241 ?_
                                      refine r_iast (w2 := MW X a ν (u2 (u2 (u2 σ 39 (kF σ (σ 39) i6)) 39 (upd (kF σ (σ 39) i6) (123 + i6) (σ 33 i6))) 39 (upd (upd (kF σ (σ 39) i6) (123 + i6) (σ 33 i6)) (131 + i6) (σ 34 i6))) τ) 25 rfl (131 + i6) rfl (by omega) (by omega) rfl 243 rfl d_Mod_keep_242 ?_
                                      refine r_aload_n rfl 244 rfl d_Mod_keep_243 ?_
                                      refine r_sipush (nI 139) rfl 247 rfl d_Mod_keep_244 ?_
                                      refine r_iload_n rfl 248 rfl d_Mod_keep_247 ?_
                                      refine r_iadd 249 rfl d_Mod_keep_248 ?_
                                      refine r_topi (nI (139 + i6)) (nI_add _ _) ?_
                                      refine r_aload_n rfl 250 rfl d_Mod_keep_249 ?_
                                      refine r_getf (v := .ref (a 35)) gf_Mod_79 0 rfl rfl 253 rfl d_Mod_keep_250 ?_
                                      refine r_iload_n rfl 254 rfl d_Mod_keep_253 ?_
                                      refine r_iald 23 rfl i6 rfl (by omega) (by omega) 255 rfl d_Mod_keep_254 ?_
                                      refine r_iast (w2 := MW X a ν (u2 (u2 (u2 (u2 σ 39 (kF σ (σ 39) i6)) 39 (upd (kF σ (σ 39) i6) (123 + i6) (σ 33 i6))) 39 (upd (upd (kF σ (σ 39) i6) (123 + i6) (σ 33 i6)) (131 + i6) (σ 34 i6))) 39 (upd (upd (upd (kF σ (σ 39) i6) (123 + i6) (σ 33 i6)) (131 + i6) (σ 34 i6)) (139 + i6) (σ 35 i6))) τ) 25 rfl (139 + i6) rfl (by omega) (by omega) rfl 256 rfl d_Mod_keep_255 ?_
                                      refine r_iinc (ls2 := [some (.ref (a 0)), some (.ref (a 39)), some (.int (nI (i6 + 1)))]) (nI (i6 + 1)) rfl (nI_1 _) 259 rfl d_Mod_keep_256 (by decide) rfl rfl ?_
                                      refine r_goto 212 rfl d_Mod_keep_259 ?_
                                      refine Runs.cast (ih12 (i6 + 1) (by omega) (by omega)) (rfl) rfl (by rw [u2_u2, u2_u2, u2_u2, kF_s (by omega)])
                                refine Runs.cast (L212_11 _ 0 (by omega) (Nat.lt_succ_self _)) (rfl) rfl (by rw [show i5 = 10 by omega, kF_0])
                              · refine r_aload_n rfl 181 rfl d_Mod_keep_180 ?_
                                refine r_bipush (nI 103) rfl 183 rfl d_Mod_keep_181 ?_
                                refine r_iload_n rfl 184 rfl d_Mod_keep_183 ?_
                                refine r_iadd 185 rfl d_Mod_keep_184 ?_
                                refine r_topi (nI (103 + i5)) (nI_add _ _) ?_
                                refine r_aload_n rfl 186 rfl d_Mod_keep_185 ?_
                                refine r_getf (v := .ref (a 30)) gf_Mod_67 0 rfl rfl 189 rfl d_Mod_keep_186 ?_
                                refine r_iload_n rfl 190 rfl d_Mod_keep_189 ?_
                                refine r_iald 19 rfl i5 rfl (by omega) (by omega) 191 rfl d_Mod_keep_190 ?_
                                refine r_iast (w2 := MW X a ν (u2 (u2 σ 39 (kE σ (σ 39) i5)) 39 (upd (kE σ (σ 39) i5) (103 + i5) (σ 30 i5))) τ) 25 rfl (103 + i5) rfl (by omega) (by omega) rfl 192 rfl d_Mod_keep_191 ?_
                                refine r_aload_n rfl 193 rfl d_Mod_keep_192 ?_
                                refine r_bipush (nI 113) rfl 195 rfl d_Mod_keep_193 ?_
                                refine r_iload_n rfl 196 rfl d_Mod_keep_195 ?_
                                refine r_iadd 197 rfl d_Mod_keep_196 ?_
                                refine r_topi (nI (113 + i5)) (nI_add _ _) ?_
                                refine r_aload_n rfl 198 rfl d_Mod_keep_197 ?_
                                refine r_getf (v := .ref (a 31)) gf_Mod_70 0 rfl rfl 201 rfl d_Mod_keep_198 ?_
                                refine r_iload_n rfl 202 rfl d_Mod_keep_201 ?_
                                refine r_iald 20 rfl i5 rfl (by omega) (by omega) 203 rfl d_Mod_keep_202 ?_
                                refine r_iast (w2 := MW X a ν (u2 (u2 (u2 σ 39 (kE σ (σ 39) i5)) 39 (upd (kE σ (σ 39) i5) (103 + i5) (σ 30 i5))) 39 (upd (upd (kE σ (σ 39) i5) (103 + i5) (σ 30 i5)) (113 + i5) (σ 31 i5))) τ) 25 rfl (113 + i5) rfl (by omega) (by omega) rfl 204 rfl d_Mod_keep_203 ?_
                                refine r_iinc (ls2 := [some (.ref (a 0)), some (.ref (a 39)), some (.int (nI (i5 + 1)))]) (nI (i5 + 1)) rfl (nI_1 _) 207 rfl d_Mod_keep_204 (by decide) rfl rfl ?_
                                refine r_goto 174 rfl d_Mod_keep_207 ?_
                                refine Runs.cast (ih10 (i5 + 1) (by omega) (by omega)) (rfl) rfl (by rw [u2_u2, u2_u2, kE_s (by omega)])
                          refine Runs.cast (L174_9 _ 0 (by omega) (Nat.lt_succ_self _)) (rfl) rfl (by rw [show i4 = 5 by omega, kE_0])
                        · refine r_aload_n rfl 107 rfl d_Mod_keep_106 ?_
                          refine r_bipush (nI 78) rfl 109 rfl d_Mod_keep_107 ?_
                          refine r_iload_n rfl 110 rfl d_Mod_keep_109 ?_
                          refine r_iadd 111 rfl d_Mod_keep_110 ?_
                          refine r_topi (nI (78 + i4)) (nI_add _ _) ?_
                          refine r_aload_n rfl 112 rfl d_Mod_keep_111 ?_
                          refine r_getf (v := .ref (a 24)) gf_Mod_52 0 rfl rfl 115 rfl d_Mod_keep_112 ?_
                          refine r_iload_n rfl 116 rfl d_Mod_keep_115 ?_
                          refine r_iald 14 rfl i4 rfl (by omega) (by omega) 117 rfl d_Mod_keep_116 ?_
                          refine r_iast (w2 := MW X a ν (u2 (u2 σ 39 (kD σ (σ 39) i4)) 39 (upd (kD σ (σ 39) i4) (78 + i4) (σ 24 i4))) τ) 25 rfl (78 + i4) rfl (by omega) (by omega) rfl 118 rfl d_Mod_keep_117 ?_
                          refine r_aload_n rfl 119 rfl d_Mod_keep_118 ?_
                          refine r_bipush (nI 83) rfl 121 rfl d_Mod_keep_119 ?_
                          refine r_iload_n rfl 122 rfl d_Mod_keep_121 ?_
                          refine r_iadd 123 rfl d_Mod_keep_122 ?_
                          refine r_topi (nI (83 + i4)) (nI_add _ _) ?_
                          refine r_aload_n rfl 124 rfl d_Mod_keep_123 ?_
                          refine r_getf (v := .ref (a 25)) gf_Mod_55 0 rfl rfl 127 rfl d_Mod_keep_124 ?_
                          refine r_iload_n rfl 128 rfl d_Mod_keep_127 ?_
                          refine r_iald 15 rfl i4 rfl (by omega) (by omega) 129 rfl d_Mod_keep_128 ?_
                          refine r_iast (w2 := MW X a ν (u2 (u2 (u2 σ 39 (kD σ (σ 39) i4)) 39 (upd (kD σ (σ 39) i4) (78 + i4) (σ 24 i4))) 39 (upd (upd (kD σ (σ 39) i4) (78 + i4) (σ 24 i4)) (83 + i4) (σ 25 i4))) τ) 25 rfl (83 + i4) rfl (by omega) (by omega) rfl 130 rfl d_Mod_keep_129 ?_
                          refine r_aload_n rfl 131 rfl d_Mod_keep_130 ?_
                          refine r_bipush (nI 88) rfl 133 rfl d_Mod_keep_131 ?_
                          refine r_iload_n rfl 134 rfl d_Mod_keep_133 ?_
                          refine r_iadd 135 rfl d_Mod_keep_134 ?_
                          refine r_topi (nI (88 + i4)) (nI_add _ _) ?_
                          refine r_aload_n rfl 136 rfl d_Mod_keep_135 ?_
                          refine r_getf (v := .ref (a 26)) gf_Mod_58 0 rfl rfl 139 rfl d_Mod_keep_136 ?_
                          refine r_iload_n rfl 140 rfl d_Mod_keep_139 ?_
                          refine r_iald 16 rfl i4 rfl (by omega) (by omega) 141 rfl d_Mod_keep_140 ?_
                          refine r_iast (w2 := MW X a ν (u2 (u2 (u2 (u2 σ 39 (kD σ (σ 39) i4)) 39 (upd (kD σ (σ 39) i4) (78 + i4) (σ 24 i4))) 39 (upd (upd (kD σ (σ 39) i4) (78 + i4) (σ 24 i4)) (83 + i4) (σ 25 i4))) 39 (upd (upd (upd (kD σ (σ 39) i4) (78 + i4) (σ 24 i4)) (83 + i4) (σ 25 i4)) (88 + i4) (σ 26 i4))) τ) 25 rfl (88 + i4) rfl (by omega) (by omega) rfl 142 rfl d_Mod_keep_141 ?_
                          refine r_aload_n rfl 143 rfl d_Mod_keep_142 ?_
                          refine r_bipush (nI 93) rfl 145 rfl d_Mod_keep_143 ?_
                          refine r_iload_n rfl 146 rfl d_Mod_keep_145 ?_
                          refine r_iadd 147 rfl d_Mod_keep_146 ?_
                          refine r_topi (nI (93 + i4)) (nI_add _ _) ?_
                          refine r_aload_n rfl 148 rfl d_Mod_keep_147 ?_
                          refine r_getf (v := .ref (a 27)) gf_Mod_61 0 rfl rfl 151 rfl d_Mod_keep_148 ?_
                          refine r_iload_n rfl 152 rfl d_Mod_keep_151 ?_
                          refine r_iald 17 rfl i4 rfl (by omega) (by omega) 153 rfl d_Mod_keep_152 ?_
                          refine r_iast (w2 := MW X a ν (u2 (u2 (u2 (u2 (u2 σ 39 (kD σ (σ 39) i4)) 39 (upd (kD σ (σ 39) i4) (78 + i4) (σ 24 i4))) 39 (upd (upd (kD σ (σ 39) i4) (78 + i4) (σ 24 i4)) (83 + i4) (σ 25 i4))) 39 (upd (upd (upd (kD σ (σ 39) i4) (78 + i4) (σ 24 i4)) (83 + i4) (σ 25 i4)) (88 + i4) (σ 26 i4))) 39 (upd (upd (upd (upd (kD σ (σ 39) i4) (78 + i4) (σ 24 i4)) (83 + i4) (σ 25 i4)) (88 + i4) (σ 26 i4)) (93 + i4) (σ 27 i4))) τ) 25 rfl (93 + i4) rfl (by omega) (by omega) rfl 154 rfl d_Mod_keep_153 ?_
                          refine r_aload_n rfl 155 rfl d_Mod_keep_154 ?_
                          refine r_bipush (nI 98) rfl 157 rfl d_Mod_keep_155 ?_
                          refine r_iload_n rfl 158 rfl d_Mod_keep_157 ?_
                          refine r_iadd 159 rfl d_Mod_keep_158 ?_
                          refine r_topi (nI (98 + i4)) (nI_add _ _) ?_
                          refine r_aload_n rfl 160 rfl d_Mod_keep_159 ?_
                          refine r_getf (v := .ref (a 28)) gf_Mod_64 0 rfl rfl 163 rfl d_Mod_keep_160 ?_
                          refine r_iload_n rfl 164 rfl d_Mod_keep_163 ?_
                          refine r_iald 18 rfl i4 rfl (by omega) (by omega) 165 rfl d_Mod_keep_164 ?_
                          refine r_iast (w2 := MW X a ν (u2 (u2 (u2 (u2 (u2 (u2 σ 39 (kD σ (σ 39) i4)) 39 (upd (kD σ (σ 39) i4) (78 + i4) (σ 24 i4))) 39 (upd (upd (kD σ (σ 39) i4) (78 + i4) (σ 24 i4)) (83 + i4) (σ 25 i4))) 39 (upd (upd (upd (kD σ (σ 39) i4) (78 + i4) (σ 24 i4)) (83 + i4) (σ 25 i4)) (88 + i4) (σ 26 i4))) 39 (upd (upd (upd (upd (kD σ (σ 39) i4) (78 + i4) (σ 24 i4)) (83 + i4) (σ 25 i4)) (88 + i4) (σ 26 i4)) (93 + i4) (σ 27 i4))) 39 (upd (upd (upd (upd (upd (kD σ (σ 39) i4) (78 + i4) (σ 24 i4)) (83 + i4) (σ 25 i4)) (88 + i4) (σ 26 i4)) (93 + i4) (σ 27 i4)) (98 + i4) (σ 28 i4))) τ) 25 rfl (98 + i4) rfl (by omega) (by omega) rfl 166 rfl d_Mod_keep_165 ?_
                          refine r_iinc (ls2 := [some (.ref (a 0)), some (.ref (a 39)), some (.int (nI (i4 + 1)))]) (nI (i4 + 1)) rfl (nI_1 _) 169 rfl d_Mod_keep_166 (by decide) rfl rfl ?_
                          refine r_goto 101 rfl d_Mod_keep_169 ?_
                          refine Runs.cast (ih8 (i4 + 1) (by omega) (by omega)) (rfl) rfl (by rw [u2_u2, u2_u2, u2_u2, u2_u2, u2_u2, kD_s (by omega)])
                    refine Runs.cast (L101_7 _ 0 (by omega) (Nat.lt_succ_self _)) (rfl) rfl (by rw [show i3 = 36 by omega, kD_0])
                  · refine r_aload_n rfl 82 rfl d_Mod_keep_81 ?_
                    refine r_bipush (nI 42) rfl 84 rfl d_Mod_keep_82 ?_
                    refine r_iload_n rfl 85 rfl d_Mod_keep_84 ?_
                    refine r_iadd 86 rfl d_Mod_keep_85 ?_
                    refine r_topi (nI (42 + i3)) (nI_add _ _) ?_
                    refine r_aload_n rfl 87 rfl d_Mod_keep_86 ?_
                    refine r_getf (v := .ref (a 5)) gf_Mod_24 0 rfl rfl 90 rfl d_Mod_keep_87 ?_
                    refine r_iload_n rfl 91 rfl d_Mod_keep_90 ?_
                    refine r_iald 5 rfl i3 rfl (by omega) (by omega) 92 rfl d_Mod_keep_91 ?_
                    refine r_iast (w2 := MW X a ν (u2 (u2 σ 39 (kC σ (σ 39) i3)) 39 (upd (kC σ (σ 39) i3) (42 + i3) (σ 5 i3))) τ) 25 rfl (42 + i3) rfl (by omega) (by omega) rfl 93 rfl d_Mod_keep_92 ?_
                    refine r_iinc (ls2 := [some (.ref (a 0)), some (.ref (a 39)), some (.int (nI (i3 + 1)))]) (nI (i3 + 1)) rfl (nI_1 _) 96 rfl d_Mod_keep_93 (by decide) rfl rfl ?_
                    refine r_goto 75 rfl d_Mod_keep_96 ?_
                    refine Runs.cast (ih6 (i3 + 1) (by omega) (by omega)) (rfl) rfl (by rw [u2_u2]; congr 1; congr 1; exact cpy_s0)
              refine Runs.cast (L75_5 _ 0 (by omega) (Nat.lt_succ_self _)) (rfl) rfl (by rw [show i2 = 24 by omega, kC_0])
            · refine r_aload_n rfl 56 rfl d_Mod_keep_55 ?_
              refine r_bipush (nI 18) rfl 58 rfl d_Mod_keep_56 ?_
              refine r_iload_n rfl 59 rfl d_Mod_keep_58 ?_
              refine r_iadd 60 rfl d_Mod_keep_59 ?_
              refine r_topi (nI (18 + i2)) (nI_add _ _) ?_
              refine r_aload_n rfl 61 rfl d_Mod_keep_60 ?_
              refine r_getf (v := .ref (a 4)) gf_Mod_21 0 rfl rfl 64 rfl d_Mod_keep_61 ?_
              refine r_iload_n rfl 65 rfl d_Mod_keep_64 ?_
              refine r_iald 4 rfl i2 rfl (by omega) (by omega) 66 rfl d_Mod_keep_65 ?_
              refine r_iast (w2 := MW X a ν (u2 (u2 σ 39 (kB σ (σ 39) i2)) 39 (upd (kB σ (σ 39) i2) (18 + i2) (σ 4 i2))) τ) 25 rfl (18 + i2) rfl (by omega) (by omega) rfl 67 rfl d_Mod_keep_66 ?_
              refine r_iinc (ls2 := [some (.ref (a 0)), some (.ref (a 39)), some (.int (nI (i2 + 1)))]) (nI (i2 + 1)) rfl (nI_1 _) 70 rfl d_Mod_keep_67 (by decide) rfl rfl ?_
              refine r_goto 49 rfl d_Mod_keep_70 ?_
              refine Runs.cast (ih4 (i2 + 1) (by omega) (by omega)) (rfl) rfl (by rw [u2_u2]; congr 1; congr 1; exact cpy_s0)
        refine Runs.cast (L49_3 _ 0 (by omega) (Nat.lt_succ_self _)) (rfl) rfl (by rw [show i1 = 6 by omega, kB_0])
      · refine r_aload_n rfl 9 rfl d_Mod_keep_8 ?_
        refine r_iload_n rfl 10 rfl d_Mod_keep_9 ?_
        refine r_aload_n rfl 11 rfl d_Mod_keep_10 ?_
        refine r_getf (v := .ref (a 1)) gf_Mod_9 0 rfl rfl 14 rfl d_Mod_keep_11 ?_
        refine r_iload_n rfl 15 rfl d_Mod_keep_14 ?_
        refine r_iald 1 rfl i1 rfl (by omega) (by omega) 16 rfl d_Mod_keep_15 ?_
        refine r_iast (w2 := MW X a ν (u2 (u2 σ 39 (kA σ (σ 39) i1)) 39 (upd (kA σ (σ 39) i1) i1 (σ 1 i1))) τ) 25 rfl i1 rfl (by omega) (by omega) rfl 17 rfl d_Mod_keep_16 ?_
        refine r_aload_n rfl 18 rfl d_Mod_keep_17 ?_
        refine r_bipush (nI 6) rfl 20 rfl d_Mod_keep_18 ?_
        refine r_iload_n rfl 21 rfl d_Mod_keep_20 ?_
        refine r_iadd 22 rfl d_Mod_keep_21 ?_
        refine r_topi (nI (6 + i1)) (nI_add _ _) ?_
        refine r_aload_n rfl 23 rfl d_Mod_keep_22 ?_
        refine r_getf (v := .ref (a 2)) gf_Mod_15 0 rfl rfl 26 rfl d_Mod_keep_23 ?_
        refine r_iload_n rfl 27 rfl d_Mod_keep_26 ?_
        refine r_iald 2 rfl i1 rfl (by omega) (by omega) 28 rfl d_Mod_keep_27 ?_
        refine r_iast (w2 := MW X a ν (u2 (u2 (u2 σ 39 (kA σ (σ 39) i1)) 39 (upd (kA σ (σ 39) i1) i1 (σ 1 i1))) 39 (upd (upd (kA σ (σ 39) i1) i1 (σ 1 i1)) (6 + i1) (σ 2 i1))) τ) 25 rfl (6 + i1) rfl (by omega) (by omega) rfl 29 rfl d_Mod_keep_28 ?_
        refine r_aload_n rfl 30 rfl d_Mod_keep_29 ?_
        refine r_bipush (nI 12) rfl 32 rfl d_Mod_keep_30 ?_
        refine r_iload_n rfl 33 rfl d_Mod_keep_32 ?_
        refine r_iadd 34 rfl d_Mod_keep_33 ?_
        refine r_topi (nI (12 + i1)) (nI_add _ _) ?_
        refine r_aload_n rfl 35 rfl d_Mod_keep_34 ?_
        refine r_getf (v := .ref (a 3)) gf_Mod_18 0 rfl rfl 38 rfl d_Mod_keep_35 ?_
        refine r_iload_n rfl 39 rfl d_Mod_keep_38 ?_
        refine r_iald 3 rfl i1 rfl (by omega) (by omega) 40 rfl d_Mod_keep_39 ?_
        refine r_iast (w2 := MW X a ν (u2 (u2 (u2 (u2 σ 39 (kA σ (σ 39) i1)) 39 (upd (kA σ (σ 39) i1) i1 (σ 1 i1))) 39 (upd (upd (kA σ (σ 39) i1) i1 (σ 1 i1)) (6 + i1) (σ 2 i1))) 39 (upd (upd (upd (kA σ (σ 39) i1) i1 (σ 1 i1)) (6 + i1) (σ 2 i1)) (12 + i1) (σ 3 i1))) τ) 25 rfl (12 + i1) rfl (by omega) (by omega) rfl 41 rfl d_Mod_keep_40 ?_
        refine r_iinc (ls2 := [some (.ref (a 0)), some (.ref (a 39)), some (.int (nI (i1 + 1)))]) (nI (i1 + 1)) rfl (nI_1 _) 44 rfl d_Mod_keep_41 (by decide) rfl rfl ?_
        refine r_goto 2 rfl d_Mod_keep_44 ?_
        refine Runs.cast (ih2 (i1 + 1) (by omega) (by omega)) (rfl) rfl (by rw [u2_u2, u2_u2, u2_u2, kA_s (by omega)])
  refine Runs.cast (L2_1 _ 0 (by omega) (Nat.lt_succ_self _)) (rfl) rfl (by rw [kA_0, u2_self])
theorem c_Mod_again39 (X : Xn) (a ν : Nat → Nat) (σ : Nat → Nat → Int32) (τ : Nat → Int64) (n0 d0 s0 p0 b0 : Nat) (e147 : σ 39 147 = nI n0) (e148 : σ 39 148 = nI d0) (e149 : σ 39 149 = nI s0) (e150 : σ 39 150 = nI p0) (e151 : σ 39 151 = nI b0) : Does X 1 M_Mod_again [.ref (a 0), .ref (a 39)] (MW X a ν σ τ) 0 0 (fun (vv : Option Value) (ww : va_W) => vv = none ∧ ww = MW X a (u1 (u1 (u1 (u1 (u1 ν 0 n0) 6 d0) 23 s0) 29 p0) 32 b0) (againF σ (σ 39)) τ) := by
  generalize hQ : (fun (vv : Option Value) (ww : va_W) => vv = none ∧ ww = MW X a (u1 (u1 (u1 (u1 (u1 ν 0 n0) 6 d0) 23 s0) 29 p0) 32 b0) (againF σ (σ 39)) τ) = Q
  refine Does.go rfl (Nat.le_of_ble_eq_true rfl) [some (.ref (a 0)), some (.ref (a 39)), none] 1 rfl ?_
  refine r_iconst (nI 0) rfl 1 rfl d_Mod_again_0 ?_
  refine r_istore_n (ls2 := [some (.ref (a 0)), some (.ref (a 39)), some (.int (nI 0))]) 2 rfl d_Mod_again_1 (by decide) rfl rfl ?_
  have L2_1 : ∀ (f : Nat) (i1 : Nat), (i1 ≤ 6) → 6 - i1 < f → Runs X 1 M_Mod_again 0 0 Q 2 [some (.ref (a 0)), some (.ref (a 39)), some (.int (nI i1))] [] 0 0 (MW X a ν (g3 σ (σ 39) i1) τ) := by
    intro f
    induction f with
    | zero => intro i1 hi1 hmu; exact absurd hmu (Nat.not_lt_zero _)
    | succ f ih2 =>
      intro i1 hi1 hmu
      refine r_iload_n rfl 3 rfl d_Mod_again_2 ?_
      refine r_bipush (nI 6) rfl 5 rfl d_Mod_again_3 ?_
      refine r_icmp_geN i1 6 (by omega) (by omega) 8 47 rfl rfl d_Mod_again_5 (fun h5 => ?_) (fun h5 => ?_)
      · refine r_iconst (nI 0) rfl 48 rfl d_Mod_again_47 ?_
        refine r_istore_n (ls2 := [some (.ref (a 0)), some (.ref (a 39)), some (.int (nI 0))]) 49 rfl d_Mod_again_48 (by decide) rfl rfl ?_
        have L49_3 : ∀ (f : Nat) (i2 : Nat), (i2 ≤ 24) → 24 - i2 < f → Runs X 1 M_Mod_again 0 0 Q 49 [some (.ref (a 0)), some (.ref (a 39)), some (.int (nI i2))] [] 0 0 (MW X a ν (g4 σ (σ 39) i2) τ) := by
          intro f
          induction f with
          | zero => intro i2 hi2 hmu; exact absurd hmu (Nat.not_lt_zero _)
          | succ f ih4 =>
            intro i2 hi2 hmu
            refine r_iload_n rfl 50 rfl d_Mod_again_49 ?_
            refine r_bipush (nI 24) rfl 52 rfl d_Mod_again_50 ?_
            refine r_icmp_geN i2 24 (by omega) (by omega) 55 73 rfl rfl d_Mod_again_52 (fun h52 => ?_) (fun h52 => ?_)
            · refine r_iconst (nI 0) rfl 74 rfl d_Mod_again_73 ?_
              refine r_istore_n (ls2 := [some (.ref (a 0)), some (.ref (a 39)), some (.int (nI 0))]) 75 rfl d_Mod_again_74 (by decide) rfl rfl ?_
              have L75_5 : ∀ (f : Nat) (i3 : Nat), (i3 ≤ 36) → 36 - i3 < f → Runs X 1 M_Mod_again 0 0 Q 75 [some (.ref (a 0)), some (.ref (a 39)), some (.int (nI i3))] [] 0 0 (MW X a ν (g5 σ (σ 39) i3) τ) := by
                intro f
                induction f with
                | zero => intro i3 hi3 hmu; exact absurd hmu (Nat.not_lt_zero _)
                | succ f ih6 =>
                  intro i3 hi3 hmu
                  refine r_iload_n rfl 76 rfl d_Mod_again_75 ?_
                  refine r_bipush (nI 36) rfl 78 rfl d_Mod_again_76 ?_
                  refine r_icmp_geN i3 36 (by omega) (by omega) 81 99 rfl rfl d_Mod_again_78 (fun h78 => ?_) (fun h78 => ?_)
                  · refine r_iconst (nI 0) rfl 100 rfl d_Mod_again_99 ?_
                    refine r_istore_n (ls2 := [some (.ref (a 0)), some (.ref (a 39)), some (.int (nI 0))]) 101 rfl d_Mod_again_100 (by decide) rfl rfl ?_
                    have L101_7 : ∀ (f : Nat) (i4 : Nat), (i4 ≤ 5) → 5 - i4 < f → Runs X 1 M_Mod_again 0 0 Q 101 [some (.ref (a 0)), some (.ref (a 39)), some (.int (nI i4))] [] 0 0 (MW X a ν (g6 σ (σ 39) i4) τ) := by
                      intro f
                      induction f with
                      | zero => intro i4 hi4 hmu; exact absurd hmu (Nat.not_lt_zero _)
                      | succ f ih8 =>
                        intro i4 hi4 hmu
                        refine r_iload_n rfl 102 rfl d_Mod_again_101 ?_
                        refine r_iconst (nI 5) rfl 103 rfl d_Mod_again_102 ?_
                        refine r_icmp_geN i4 5 (by omega) (by omega) 106 172 rfl rfl d_Mod_again_103 (fun h103 => ?_) (fun h103 => ?_)
                        · refine r_iconst (nI 0) rfl 173 rfl d_Mod_again_172 ?_
                          refine r_istore_n (ls2 := [some (.ref (a 0)), some (.ref (a 39)), some (.int (nI 0))]) 174 rfl d_Mod_again_173 (by decide) rfl rfl ?_
                          have L174_9 : ∀ (f : Nat) (i5 : Nat), (i5 ≤ 10) → 10 - i5 < f → Runs X 1 M_Mod_again 0 0 Q 174 [some (.ref (a 0)), some (.ref (a 39)), some (.int (nI i5))] [] 0 0 (MW X a ν (g7 σ (σ 39) i5) τ) := by
                            intro f
                            induction f with
                            | zero => intro i5 hi5 hmu; exact absurd hmu (Nat.not_lt_zero _)
                            | succ f ih10 =>
                              intro i5 hi5 hmu
                              refine r_iload_n rfl 175 rfl d_Mod_again_174 ?_
                              refine r_bipush (nI 10) rfl 177 rfl d_Mod_again_175 ?_
                              refine r_icmp_geN i5 10 (by omega) (by omega) 180 210 rfl rfl d_Mod_again_177 (fun h177 => ?_) (fun h177 => ?_)
                              · refine r_iconst (nI 0) rfl 211 rfl d_Mod_again_210 ?_
                                refine r_istore_n (ls2 := [some (.ref (a 0)), some (.ref (a 39)), some (.int (nI 0))]) 212 rfl d_Mod_again_211 (by decide) rfl rfl ?_
                                have L212_11 : ∀ (f : Nat) (i6 : Nat), (i6 ≤ 8) → 8 - i6 < f → Runs X 1 M_Mod_again 0 0 Q 212 [some (.ref (a 0)), some (.ref (a 39)), some (.int (nI i6))] [] 0 0 (MW X a ν (g8 σ (σ 39) i6) τ) := by
                                  intro f
                                  induction f with
                                  | zero => intro i6 hi6 hmu; exact absurd hmu (Nat.not_lt_zero _)
                                  | succ f ih12 =>
                                    intro i6 hi6 hmu
                                    refine r_iload_n rfl 213 rfl d_Mod_again_212 ?_
                                    refine r_bipush (nI 8) rfl 215 rfl d_Mod_again_213 ?_
                                    refine r_icmp_geN i6 8 (by omega) (by omega) 218 262 rfl rfl d_Mod_again_215 (fun h215 => ?_) (fun h215 => ?_)
                                    · refine r_aload_n rfl 263 rfl d_Mod_again_262 ?_
                                      refine r_aload_n rfl 264 rfl d_Mod_again_263 ?_
                                      refine r_sipush (nI 147) rfl 267 rfl d_Mod_again_264 ?_
                                      refine r_iald 25 rfl 147 rfl (by omega) (by omega) 268 rfl d_Mod_again_267 ?_
                                      refine r_topi (nI n0) (e147) ?_
                                      refine r_putf (w2 := MW X a (u1 ν 0 n0) (g8 σ (σ 39) i6) τ) pf_Mod_111 0 rfl (rfl) rfl (Nat.le_of_ble_eq_true rfl) rfl 271 rfl d_Mod_again_268 ?_
                                      refine r_aload_n rfl 272 rfl d_Mod_again_271 ?_
                                      refine r_aload_n rfl 273 rfl d_Mod_again_272 ?_
                                      refine r_sipush (nI 148) rfl 276 rfl d_Mod_again_273 ?_
                                      refine r_iald 25 rfl 148 rfl (by omega) (by omega) 277 rfl d_Mod_again_276 ?_
                                      refine r_topi (nI d0) (e148) ?_
                                      refine r_putf (w2 := MW X a (u1 (u1 ν 0 n0) 6 d0) (g8 σ (σ 39) i6) τ) pf_Mod_240 0 rfl (rfl) rfl (Nat.le_of_ble_eq_true rfl) rfl 280 rfl d_Mod_again_277 ?_
                                      refine r_aload_n rfl 281 rfl d_Mod_again_280 ?_
                                      refine r_aload_n rfl 282 rfl d_Mod_again_281 ?_
                                      refine r_sipush (nI 149) rfl 285 rfl d_Mod_again_282 ?_
                                      refine r_iald 25 rfl 149 rfl (by omega) (by omega) 286 rfl d_Mod_again_285 ?_
                                      refine r_topi (nI s0) (e149) ?_
                                      refine r_putf (w2 := MW X a (u1 (u1 (u1 ν 0 n0) 6 d0) 23 s0) (g8 σ (σ 39) i6) τ) pf_Mod_297 0 rfl (rfl) rfl (Nat.le_of_ble_eq_true rfl) rfl 289 rfl d_Mod_again_286 ?_
                                      refine r_aload_n rfl 290 rfl d_Mod_again_289 ?_
                                      refine r_aload_n rfl 291 rfl d_Mod_again_290 ?_
                                      refine r_sipush (nI 150) rfl 294 rfl d_Mod_again_291 ?_
                                      refine r_iald 25 rfl 150 rfl (by omega) (by omega) 295 rfl d_Mod_again_294 ?_
                                      refine r_topi (nI p0) (e150) ?_
                                      refine r_putf (w2 := MW X a (u1 (u1 (u1 (u1 ν 0 n0) 6 d0) 23 s0) 29 p0) (g8 σ (σ 39) i6) τ) pf_Mod_312 0 rfl (rfl) rfl (Nat.le_of_ble_eq_true rfl) rfl 298 rfl d_Mod_again_295 ?_
                                      refine r_aload_n rfl 299 rfl d_Mod_again_298 ?_
                                      refine r_aload_n rfl 300 rfl d_Mod_again_299 ?_
                                      refine r_sipush (nI 151) rfl 303 rfl d_Mod_again_300 ?_
                                      refine r_iald 25 rfl 151 rfl (by omega) (by omega) 304 rfl d_Mod_again_303 ?_
                                      refine r_topi (nI b0) (e151) ?_
                                      refine r_putf (w2 := MW X a (u1 (u1 (u1 (u1 (u1 ν 0 n0) 6 d0) 23 s0) 29 p0) 32 b0) (g8 σ (σ 39) i6) τ) pf_Mod_319 0 rfl (rfl) rfl (Nat.le_of_ble_eq_true rfl) rfl 307 rfl d_Mod_again_304 ?_
                                      refine r_aload_n rfl 308 rfl d_Mod_again_307 ?_
                                      refine r_aload_n rfl 309 rfl d_Mod_again_308 ?_
                                      refine r_sipush (nI 152) rfl 312 rfl d_Mod_again_309 ?_
                                      refine r_iald 25 rfl 152 rfl (by omega) (by omega) 313 rfl d_Mod_again_312 ?_
                                      refine r_putf (w2 := MW X a (u1 (u1 (u1 (u1 (u1 ν 0 n0) 6 d0) 23 s0) 29 p0) 32 b0) (u2 (g8 σ (σ 39) i6) 14 (upd (σ 14) 0 (σ 39 152))) τ) pf_Mod_107 0 rfl (rfl) rfl (Nat.le_of_ble_eq_true rfl) rfl 316 rfl d_Mod_again_313 ?_
                                      exact r_vret rfl (Nat.zero_le _) (Nat.zero_le _) d_Mod_again_316 (by rw [← hQ]; exact ⟨rfl, by rw [show i6 = 8 by omega]; rfl⟩)
                                    · refine r_aload_n rfl 219 rfl d_Mod_again_218 ?_
                                      refine r_getf (v := .ref (a 33)) gf_Mod_73 0 rfl rfl 222 rfl d_Mod_again_219 ?_
                                      refine r_iload_n rfl 223 rfl d_Mod_again_222 ?_
                                      refine r_aload_n rfl 224 rfl d_Mod_again_223 ?_
                                      refine r_bipush (nI 123) rfl 226 rfl d_Mod_again_224 ?_
                                      refine r_iload_n rfl 227 rfl d_Mod_again_226 ?_
                                      refine r_iadd 228 rfl d_Mod_again_227 ?_
                                      refine r_topi (nI (123 + i6)) (nI_add _ _) ?_
                                      refine r_iald 25 rfl (123 + i6) rfl (by omega) (by omega) 229 rfl d_Mod_again_228 ?_
                                      refine r_iast (w2 := MW X a ν (u2 (g8 σ (σ 39) i6) 33 (upd (va_cpy (σ 39) (σ 33) 123 0 i6) i6 (σ 39 (123 + i6)))) τ) 21 rfl i6 rfl (by omega) (by omega) rfl 230 rfl d_Mod_again_229 ?_
                                      refine r_aload_n rfl 231 rfl d_Mod_again_230 ?_
                                      refine r_getf (v := .ref (a 34)) gf_Mod_76 0 rfl rfl 234 rfl d_Mod_again_231 ?_
                                      refine r_iload_n rfl 235 rfl d_Mod_again_234 ?_
                                      refine r_aload_n rfl 236 rfl d_Mod_again_235 ?_
                                      refine r_sipush (nI 131) rfl 239 rfl d_Mod_again_236 ?_
                                      refine r_iload_n rfl 240 rfl d_Mod_again_239 ?_
                                      refine r_iadd 241 rfl d_Mod_again_240 ?_
                                      refine r_topi (nI (131 + i6)) (nI_add _ _) ?_
                                      refine r_iald 25 rfl (131 + i6) rfl (by omega) (by omega) 242 rfl d_Mod_again_241 ?_
                                      refine r_iast (w2 := MW X a ν (u2 (u2 (g8 σ (σ 39) i6) 33 (upd (va_cpy (σ 39) (σ 33) 123 0 i6) i6 (σ 39 (123 + i6)))) 34 (upd (va_cpy (σ 39) (σ 34) 131 0 i6) i6 (σ 39 (131 + i6)))) τ) 22 rfl i6 rfl (by omega) (by omega) rfl 243 rfl d_Mod_again_242 ?_
                                      refine r_aload_n rfl 244 rfl d_Mod_again_243 ?_
                                      refine r_getf (v := .ref (a 35)) gf_Mod_79 0 rfl rfl 247 rfl d_Mod_again_244 ?_
                                      refine r_iload_n rfl 248 rfl d_Mod_again_247 ?_
                                      refine r_aload_n rfl 249 rfl d_Mod_again_248 ?_
                                      refine r_sipush (nI 139) rfl 252 rfl d_Mod_again_249 ?_
                                      refine r_iload_n rfl 253 rfl d_Mod_again_252 ?_
                                      refine r_iadd 254 rfl d_Mod_again_253 ?_
                                      refine r_topi (nI (139 + i6)) (nI_add _ _) ?_
                                      refine r_iald 25 rfl (139 + i6) rfl (by omega) (by omega) 255 rfl d_Mod_again_254 ?_
                                      refine r_iast (w2 := MW X a ν (u2 (u2 (u2 (g8 σ (σ 39) i6) 33 (upd (va_cpy (σ 39) (σ 33) 123 0 i6) i6 (σ 39 (123 + i6)))) 34 (upd (va_cpy (σ 39) (σ 34) 131 0 i6) i6 (σ 39 (131 + i6)))) 35 (upd (va_cpy (σ 39) (σ 35) 139 0 i6) i6 (σ 39 (139 + i6)))) τ) 23 rfl i6 rfl (by omega) (by omega) rfl 256 rfl d_Mod_again_255 ?_
                                      refine r_iinc (ls2 := [some (.ref (a 0)), some (.ref (a 39)), some (.int (nI (i6 + 1)))]) (nI (i6 + 1)) rfl (nI_1 _) 259 rfl d_Mod_again_256 (by decide) rfl rfl ?_
                                      refine r_goto 212 rfl d_Mod_again_259 ?_
                                      refine Runs.cast (ih12 (i6 + 1) (by omega) (by omega)) (rfl) rfl (by rw [g8_s])
                                refine Runs.cast (L212_11 _ 0 (by omega) (Nat.lt_succ_self _)) (rfl) rfl (by rw [show i5 = 10 by omega, g8_0])
                              · refine r_aload_n rfl 181 rfl d_Mod_again_180 ?_
                                refine r_getf (v := .ref (a 30)) gf_Mod_67 0 rfl rfl 184 rfl d_Mod_again_181 ?_
                                refine r_iload_n rfl 185 rfl d_Mod_again_184 ?_
                                refine r_aload_n rfl 186 rfl d_Mod_again_185 ?_
                                refine r_bipush (nI 103) rfl 188 rfl d_Mod_again_186 ?_
                                refine r_iload_n rfl 189 rfl d_Mod_again_188 ?_
                                refine r_iadd 190 rfl d_Mod_again_189 ?_
                                refine r_topi (nI (103 + i5)) (nI_add _ _) ?_
                                refine r_iald 25 rfl (103 + i5) rfl (by omega) (by omega) 191 rfl d_Mod_again_190 ?_
                                refine r_iast (w2 := MW X a ν (u2 (g7 σ (σ 39) i5) 30 (upd (va_cpy (σ 39) (σ 30) 103 0 i5) i5 (σ 39 (103 + i5)))) τ) 19 rfl i5 rfl (by omega) (by omega) rfl 192 rfl d_Mod_again_191 ?_
                                refine r_aload_n rfl 193 rfl d_Mod_again_192 ?_
                                refine r_getf (v := .ref (a 31)) gf_Mod_70 0 rfl rfl 196 rfl d_Mod_again_193 ?_
                                refine r_iload_n rfl 197 rfl d_Mod_again_196 ?_
                                refine r_aload_n rfl 198 rfl d_Mod_again_197 ?_
                                refine r_bipush (nI 113) rfl 200 rfl d_Mod_again_198 ?_
                                refine r_iload_n rfl 201 rfl d_Mod_again_200 ?_
                                refine r_iadd 202 rfl d_Mod_again_201 ?_
                                refine r_topi (nI (113 + i5)) (nI_add _ _) ?_
                                refine r_iald 25 rfl (113 + i5) rfl (by omega) (by omega) 203 rfl d_Mod_again_202 ?_
                                refine r_iast (w2 := MW X a ν (u2 (u2 (g7 σ (σ 39) i5) 30 (upd (va_cpy (σ 39) (σ 30) 103 0 i5) i5 (σ 39 (103 + i5)))) 31 (upd (va_cpy (σ 39) (σ 31) 113 0 i5) i5 (σ 39 (113 + i5)))) τ) 20 rfl i5 rfl (by omega) (by omega) rfl 204 rfl d_Mod_again_203 ?_
                                refine r_iinc (ls2 := [some (.ref (a 0)), some (.ref (a 39)), some (.int (nI (i5 + 1)))]) (nI (i5 + 1)) rfl (nI_1 _) 207 rfl d_Mod_again_204 (by decide) rfl rfl ?_
                                refine r_goto 174 rfl d_Mod_again_207 ?_
                                refine Runs.cast (ih10 (i5 + 1) (by omega) (by omega)) (rfl) rfl (by rw [g7_s])
                          refine Runs.cast (L174_9 _ 0 (by omega) (Nat.lt_succ_self _)) (rfl) rfl (by rw [show i4 = 5 by omega, g7_0])
                        · refine r_aload_n rfl 107 rfl d_Mod_again_106 ?_
                          refine r_getf (v := .ref (a 24)) gf_Mod_52 0 rfl rfl 110 rfl d_Mod_again_107 ?_
                          refine r_iload_n rfl 111 rfl d_Mod_again_110 ?_
                          refine r_aload_n rfl 112 rfl d_Mod_again_111 ?_
                          refine r_bipush (nI 78) rfl 114 rfl d_Mod_again_112 ?_
                          refine r_iload_n rfl 115 rfl d_Mod_again_114 ?_
                          refine r_iadd 116 rfl d_Mod_again_115 ?_
                          refine r_topi (nI (78 + i4)) (nI_add _ _) ?_
                          refine r_iald 25 rfl (78 + i4) rfl (by omega) (by omega) 117 rfl d_Mod_again_116 ?_
                          refine r_iast (w2 := MW X a ν (u2 (g6 σ (σ 39) i4) 24 (upd (va_cpy (σ 39) (σ 24) 78 0 i4) i4 (σ 39 (78 + i4)))) τ) 14 rfl i4 rfl (by omega) (by omega) rfl 118 rfl d_Mod_again_117 ?_
                          refine r_aload_n rfl 119 rfl d_Mod_again_118 ?_
                          refine r_getf (v := .ref (a 25)) gf_Mod_55 0 rfl rfl 122 rfl d_Mod_again_119 ?_
                          refine r_iload_n rfl 123 rfl d_Mod_again_122 ?_
                          refine r_aload_n rfl 124 rfl d_Mod_again_123 ?_
                          refine r_bipush (nI 83) rfl 126 rfl d_Mod_again_124 ?_
                          refine r_iload_n rfl 127 rfl d_Mod_again_126 ?_
                          refine r_iadd 128 rfl d_Mod_again_127 ?_
                          refine r_topi (nI (83 + i4)) (nI_add _ _) ?_
                          refine r_iald 25 rfl (83 + i4) rfl (by omega) (by omega) 129 rfl d_Mod_again_128 ?_
                          refine r_iast (w2 := MW X a ν (u2 (u2 (g6 σ (σ 39) i4) 24 (upd (va_cpy (σ 39) (σ 24) 78 0 i4) i4 (σ 39 (78 + i4)))) 25 (upd (va_cpy (σ 39) (σ 25) 83 0 i4) i4 (σ 39 (83 + i4)))) τ) 15 rfl i4 rfl (by omega) (by omega) rfl 130 rfl d_Mod_again_129 ?_
                          refine r_aload_n rfl 131 rfl d_Mod_again_130 ?_
                          refine r_getf (v := .ref (a 26)) gf_Mod_58 0 rfl rfl 134 rfl d_Mod_again_131 ?_
                          refine r_iload_n rfl 135 rfl d_Mod_again_134 ?_
                          refine r_aload_n rfl 136 rfl d_Mod_again_135 ?_
                          refine r_bipush (nI 88) rfl 138 rfl d_Mod_again_136 ?_
                          refine r_iload_n rfl 139 rfl d_Mod_again_138 ?_
                          refine r_iadd 140 rfl d_Mod_again_139 ?_
                          refine r_topi (nI (88 + i4)) (nI_add _ _) ?_
                          refine r_iald 25 rfl (88 + i4) rfl (by omega) (by omega) 141 rfl d_Mod_again_140 ?_
                          refine r_iast (w2 := MW X a ν (u2 (u2 (u2 (g6 σ (σ 39) i4) 24 (upd (va_cpy (σ 39) (σ 24) 78 0 i4) i4 (σ 39 (78 + i4)))) 25 (upd (va_cpy (σ 39) (σ 25) 83 0 i4) i4 (σ 39 (83 + i4)))) 26 (upd (va_cpy (σ 39) (σ 26) 88 0 i4) i4 (σ 39 (88 + i4)))) τ) 16 rfl i4 rfl (by omega) (by omega) rfl 142 rfl d_Mod_again_141 ?_
                          refine r_aload_n rfl 143 rfl d_Mod_again_142 ?_
                          refine r_getf (v := .ref (a 27)) gf_Mod_61 0 rfl rfl 146 rfl d_Mod_again_143 ?_
                          refine r_iload_n rfl 147 rfl d_Mod_again_146 ?_
                          refine r_aload_n rfl 148 rfl d_Mod_again_147 ?_
                          refine r_bipush (nI 93) rfl 150 rfl d_Mod_again_148 ?_
                          refine r_iload_n rfl 151 rfl d_Mod_again_150 ?_
                          refine r_iadd 152 rfl d_Mod_again_151 ?_
                          refine r_topi (nI (93 + i4)) (nI_add _ _) ?_
                          refine r_iald 25 rfl (93 + i4) rfl (by omega) (by omega) 153 rfl d_Mod_again_152 ?_
                          refine r_iast (w2 := MW X a ν (u2 (u2 (u2 (u2 (g6 σ (σ 39) i4) 24 (upd (va_cpy (σ 39) (σ 24) 78 0 i4) i4 (σ 39 (78 + i4)))) 25 (upd (va_cpy (σ 39) (σ 25) 83 0 i4) i4 (σ 39 (83 + i4)))) 26 (upd (va_cpy (σ 39) (σ 26) 88 0 i4) i4 (σ 39 (88 + i4)))) 27 (upd (va_cpy (σ 39) (σ 27) 93 0 i4) i4 (σ 39 (93 + i4)))) τ) 17 rfl i4 rfl (by omega) (by omega) rfl 154 rfl d_Mod_again_153 ?_
                          refine r_aload_n rfl 155 rfl d_Mod_again_154 ?_
                          refine r_getf (v := .ref (a 28)) gf_Mod_64 0 rfl rfl 158 rfl d_Mod_again_155 ?_
                          refine r_iload_n rfl 159 rfl d_Mod_again_158 ?_
                          refine r_aload_n rfl 160 rfl d_Mod_again_159 ?_
                          refine r_bipush (nI 98) rfl 162 rfl d_Mod_again_160 ?_
                          refine r_iload_n rfl 163 rfl d_Mod_again_162 ?_
                          refine r_iadd 164 rfl d_Mod_again_163 ?_
                          refine r_topi (nI (98 + i4)) (nI_add _ _) ?_
                          refine r_iald 25 rfl (98 + i4) rfl (by omega) (by omega) 165 rfl d_Mod_again_164 ?_
                          refine r_iast (w2 := MW X a ν (u2 (u2 (u2 (u2 (u2 (g6 σ (σ 39) i4) 24 (upd (va_cpy (σ 39) (σ 24) 78 0 i4) i4 (σ 39 (78 + i4)))) 25 (upd (va_cpy (σ 39) (σ 25) 83 0 i4) i4 (σ 39 (83 + i4)))) 26 (upd (va_cpy (σ 39) (σ 26) 88 0 i4) i4 (σ 39 (88 + i4)))) 27 (upd (va_cpy (σ 39) (σ 27) 93 0 i4) i4 (σ 39 (93 + i4)))) 28 (upd (va_cpy (σ 39) (σ 28) 98 0 i4) i4 (σ 39 (98 + i4)))) τ) 18 rfl i4 rfl (by omega) (by omega) rfl 166 rfl d_Mod_again_165 ?_
                          refine r_iinc (ls2 := [some (.ref (a 0)), some (.ref (a 39)), some (.int (nI (i4 + 1)))]) (nI (i4 + 1)) rfl (nI_1 _) 169 rfl d_Mod_again_166 (by decide) rfl rfl ?_
                          refine r_goto 101 rfl d_Mod_again_169 ?_
                          refine Runs.cast (ih8 (i4 + 1) (by omega) (by omega)) (rfl) rfl (by rw [g6_s])
                    refine Runs.cast (L101_7 _ 0 (by omega) (Nat.lt_succ_self _)) (rfl) rfl (by rw [show i3 = 36 by omega, g6_0])
                  · refine r_aload_n rfl 82 rfl d_Mod_again_81 ?_
                    refine r_getf (v := .ref (a 5)) gf_Mod_24 0 rfl rfl 85 rfl d_Mod_again_82 ?_
                    refine r_iload_n rfl 86 rfl d_Mod_again_85 ?_
                    refine r_aload_n rfl 87 rfl d_Mod_again_86 ?_
                    refine r_bipush (nI 42) rfl 89 rfl d_Mod_again_87 ?_
                    refine r_iload_n rfl 90 rfl d_Mod_again_89 ?_
                    refine r_iadd 91 rfl d_Mod_again_90 ?_
                    refine r_topi (nI (42 + i3)) (nI_add _ _) ?_
                    refine r_iald 25 rfl (42 + i3) rfl (by omega) (by omega) 92 rfl d_Mod_again_91 ?_
                    refine r_iast (w2 := MW X a ν (u2 (g5 σ (σ 39) i3) 5 (upd (va_cpy (σ 39) (σ 5) 42 0 i3) i3 (σ 39 (42 + i3)))) τ) 5 rfl i3 rfl (by omega) (by omega) rfl 93 rfl d_Mod_again_92 ?_
                    refine r_iinc (ls2 := [some (.ref (a 0)), some (.ref (a 39)), some (.int (nI (i3 + 1)))]) (nI (i3 + 1)) rfl (nI_1 _) 96 rfl d_Mod_again_93 (by decide) rfl rfl ?_
                    refine r_goto 75 rfl d_Mod_again_96 ?_
                    refine Runs.cast (ih6 (i3 + 1) (by omega) (by omega)) (rfl) rfl (by rw [g5_s])
              refine Runs.cast (L75_5 _ 0 (by omega) (Nat.lt_succ_self _)) (rfl) rfl (by rw [show i2 = 24 by omega, g5_0])
            · refine r_aload_n rfl 56 rfl d_Mod_again_55 ?_
              refine r_getf (v := .ref (a 4)) gf_Mod_21 0 rfl rfl 59 rfl d_Mod_again_56 ?_
              refine r_iload_n rfl 60 rfl d_Mod_again_59 ?_
              refine r_aload_n rfl 61 rfl d_Mod_again_60 ?_
              refine r_bipush (nI 18) rfl 63 rfl d_Mod_again_61 ?_
              refine r_iload_n rfl 64 rfl d_Mod_again_63 ?_
              refine r_iadd 65 rfl d_Mod_again_64 ?_
              refine r_topi (nI (18 + i2)) (nI_add _ _) ?_
              refine r_iald 25 rfl (18 + i2) rfl (by omega) (by omega) 66 rfl d_Mod_again_65 ?_
              refine r_iast (w2 := MW X a ν (u2 (g4 σ (σ 39) i2) 4 (upd (va_cpy (σ 39) (σ 4) 18 0 i2) i2 (σ 39 (18 + i2)))) τ) 4 rfl i2 rfl (by omega) (by omega) rfl 67 rfl d_Mod_again_66 ?_
              refine r_iinc (ls2 := [some (.ref (a 0)), some (.ref (a 39)), some (.int (nI (i2 + 1)))]) (nI (i2 + 1)) rfl (nI_1 _) 70 rfl d_Mod_again_67 (by decide) rfl rfl ?_
              refine r_goto 49 rfl d_Mod_again_70 ?_
              refine Runs.cast (ih4 (i2 + 1) (by omega) (by omega)) (rfl) rfl (by rw [g4_s])
        refine Runs.cast (L49_3 _ 0 (by omega) (Nat.lt_succ_self _)) (rfl) rfl (by rw [show i1 = 6 by omega, g4_0])
      · refine r_aload_n rfl 9 rfl d_Mod_again_8 ?_
        refine r_getf (v := .ref (a 1)) gf_Mod_9 0 rfl rfl 12 rfl d_Mod_again_9 ?_
        refine r_iload_n rfl 13 rfl d_Mod_again_12 ?_
        refine r_aload_n rfl 14 rfl d_Mod_again_13 ?_
        refine r_iload_n rfl 15 rfl d_Mod_again_14 ?_
        refine r_iald 25 rfl i1 rfl (by omega) (by omega) 16 rfl d_Mod_again_15 ?_
        refine r_iast (w2 := MW X a ν (u2 (g3 σ (σ 39) i1) 1 (upd (va_cpy (σ 39) (σ 1) 0 0 i1) i1 (σ 39 i1))) τ) 1 rfl i1 rfl (by omega) (by omega) rfl 17 rfl d_Mod_again_16 ?_
        refine r_aload_n rfl 18 rfl d_Mod_again_17 ?_
        refine r_getf (v := .ref (a 2)) gf_Mod_15 0 rfl rfl 21 rfl d_Mod_again_18 ?_
        refine r_iload_n rfl 22 rfl d_Mod_again_21 ?_
        refine r_aload_n rfl 23 rfl d_Mod_again_22 ?_
        refine r_bipush (nI 6) rfl 25 rfl d_Mod_again_23 ?_
        refine r_iload_n rfl 26 rfl d_Mod_again_25 ?_
        refine r_iadd 27 rfl d_Mod_again_26 ?_
        refine r_topi (nI (6 + i1)) (nI_add _ _) ?_
        refine r_iald 25 rfl (6 + i1) rfl (by omega) (by omega) 28 rfl d_Mod_again_27 ?_
        refine r_iast (w2 := MW X a ν (u2 (u2 (g3 σ (σ 39) i1) 1 (upd (va_cpy (σ 39) (σ 1) 0 0 i1) i1 (σ 39 i1))) 2 (upd (va_cpy (σ 39) (σ 2) 6 0 i1) i1 (σ 39 (6 + i1)))) τ) 2 rfl i1 rfl (by omega) (by omega) rfl 29 rfl d_Mod_again_28 ?_
        refine r_aload_n rfl 30 rfl d_Mod_again_29 ?_
        refine r_getf (v := .ref (a 3)) gf_Mod_18 0 rfl rfl 33 rfl d_Mod_again_30 ?_
        refine r_iload_n rfl 34 rfl d_Mod_again_33 ?_
        refine r_aload_n rfl 35 rfl d_Mod_again_34 ?_
        refine r_bipush (nI 12) rfl 37 rfl d_Mod_again_35 ?_
        refine r_iload_n rfl 38 rfl d_Mod_again_37 ?_
        refine r_iadd 39 rfl d_Mod_again_38 ?_
        refine r_topi (nI (12 + i1)) (nI_add _ _) ?_
        refine r_iald 25 rfl (12 + i1) rfl (by omega) (by omega) 40 rfl d_Mod_again_39 ?_
        refine r_iast (w2 := MW X a ν (u2 (u2 (u2 (g3 σ (σ 39) i1) 1 (upd (va_cpy (σ 39) (σ 1) 0 0 i1) i1 (σ 39 i1))) 2 (upd (va_cpy (σ 39) (σ 2) 6 0 i1) i1 (σ 39 (6 + i1)))) 3 (upd (va_cpy (σ 39) (σ 3) 12 0 i1) i1 (σ 39 (12 + i1)))) τ) 3 rfl i1 rfl (by omega) (by omega) rfl 41 rfl d_Mod_again_40 ?_
        refine r_iinc (ls2 := [some (.ref (a 0)), some (.ref (a 39)), some (.int (nI (i1 + 1)))]) (nI (i1 + 1)) rfl (nI_1 _) 44 rfl d_Mod_again_41 (by decide) rfl rfl ?_
        refine r_goto 2 rfl d_Mod_again_44 ?_
        refine Runs.cast (ih2 (i1 + 1) (by omega) (by omega)) (rfl) rfl (by rw [g3_s])
  refine Runs.cast (L2_1 _ 0 (by omega) (Nat.lt_succ_self _)) (rfl) rfl (by rw [g3_0])
theorem c_Mod_keep40 (X : Xn) (a ν : Nat → Nat) (σ : Nat → Nat → Int32) (τ : Nat → Int64)  : Does X 1 M_Mod_keep [.ref (a 0), .ref (a 40)] (MW X a ν σ τ) 0 0 (fun (vv : Option Value) (ww : va_W) => vv = none ∧ ww = MW X a ν (u2 σ 40 (keepF ν σ (σ 40))) τ) := by
  generalize hQ : (fun (vv : Option Value) (ww : va_W) => vv = none ∧ ww = MW X a ν (u2 σ 40 (keepF ν σ (σ 40))) τ) = Q
  refine Does.go rfl (Nat.le_of_ble_eq_true rfl) [some (.ref (a 0)), some (.ref (a 40)), none] 1 rfl ?_
  refine r_iconst (nI 0) rfl 1 rfl d_Mod_keep_0 ?_
  refine r_istore_n (ls2 := [some (.ref (a 0)), some (.ref (a 40)), some (.int (nI 0))]) 2 rfl d_Mod_keep_1 (by decide) rfl rfl ?_
  have L2_1 : ∀ (f : Nat) (i1 : Nat), (i1 ≤ 6) → 6 - i1 < f → Runs X 1 M_Mod_keep 0 0 Q 2 [some (.ref (a 0)), some (.ref (a 40)), some (.int (nI i1))] [] 0 0 (MW X a ν (u2 σ 40 (kA σ (σ 40) i1)) τ) := by
    intro f
    induction f with
    | zero => intro i1 hi1 hmu; exact absurd hmu (Nat.not_lt_zero _)
    | succ f ih2 =>
      intro i1 hi1 hmu
      refine r_iload_n rfl 3 rfl d_Mod_keep_2 ?_
      refine r_bipush (nI 6) rfl 5 rfl d_Mod_keep_3 ?_
      refine r_icmp_geN i1 6 (by omega) (by omega) 8 47 rfl rfl d_Mod_keep_5 (fun h5 => ?_) (fun h5 => ?_)
      · refine r_iconst (nI 0) rfl 48 rfl d_Mod_keep_47 ?_
        refine r_istore_n (ls2 := [some (.ref (a 0)), some (.ref (a 40)), some (.int (nI 0))]) 49 rfl d_Mod_keep_48 (by decide) rfl rfl ?_
        have L49_3 : ∀ (f : Nat) (i2 : Nat), (i2 ≤ 24) → 24 - i2 < f → Runs X 1 M_Mod_keep 0 0 Q 49 [some (.ref (a 0)), some (.ref (a 40)), some (.int (nI i2))] [] 0 0 (MW X a ν (u2 σ 40 (kB σ (σ 40) i2)) τ) := by
          intro f
          induction f with
          | zero => intro i2 hi2 hmu; exact absurd hmu (Nat.not_lt_zero _)
          | succ f ih4 =>
            intro i2 hi2 hmu
            refine r_iload_n rfl 50 rfl d_Mod_keep_49 ?_
            refine r_bipush (nI 24) rfl 52 rfl d_Mod_keep_50 ?_
            refine r_icmp_geN i2 24 (by omega) (by omega) 55 73 rfl rfl d_Mod_keep_52 (fun h52 => ?_) (fun h52 => ?_)
            · refine r_iconst (nI 0) rfl 74 rfl d_Mod_keep_73 ?_
              refine r_istore_n (ls2 := [some (.ref (a 0)), some (.ref (a 40)), some (.int (nI 0))]) 75 rfl d_Mod_keep_74 (by decide) rfl rfl ?_
              have L75_5 : ∀ (f : Nat) (i3 : Nat), (i3 ≤ 36) → 36 - i3 < f → Runs X 1 M_Mod_keep 0 0 Q 75 [some (.ref (a 0)), some (.ref (a 40)), some (.int (nI i3))] [] 0 0 (MW X a ν (u2 σ 40 (kC σ (σ 40) i3)) τ) := by
                intro f
                induction f with
                | zero => intro i3 hi3 hmu; exact absurd hmu (Nat.not_lt_zero _)
                | succ f ih6 =>
                  intro i3 hi3 hmu
                  refine r_iload_n rfl 76 rfl d_Mod_keep_75 ?_
                  refine r_bipush (nI 36) rfl 78 rfl d_Mod_keep_76 ?_
                  refine r_icmp_geN i3 36 (by omega) (by omega) 81 99 rfl rfl d_Mod_keep_78 (fun h78 => ?_) (fun h78 => ?_)
                  · refine r_iconst (nI 0) rfl 100 rfl d_Mod_keep_99 ?_
                    refine r_istore_n (ls2 := [some (.ref (a 0)), some (.ref (a 40)), some (.int (nI 0))]) 101 rfl d_Mod_keep_100 (by decide) rfl rfl ?_
                    have L101_7 : ∀ (f : Nat) (i4 : Nat), (i4 ≤ 5) → 5 - i4 < f → Runs X 1 M_Mod_keep 0 0 Q 101 [some (.ref (a 0)), some (.ref (a 40)), some (.int (nI i4))] [] 0 0 (MW X a ν (u2 σ 40 (kD σ (σ 40) i4)) τ) := by
                      intro f
                      induction f with
                      | zero => intro i4 hi4 hmu; exact absurd hmu (Nat.not_lt_zero _)
                      | succ f ih8 =>
                        intro i4 hi4 hmu
                        refine r_iload_n rfl 102 rfl d_Mod_keep_101 ?_
                        refine r_iconst (nI 5) rfl 103 rfl d_Mod_keep_102 ?_
                        refine r_icmp_geN i4 5 (by omega) (by omega) 106 172 rfl rfl d_Mod_keep_103 (fun h103 => ?_) (fun h103 => ?_)
                        · refine r_iconst (nI 0) rfl 173 rfl d_Mod_keep_172 ?_
                          refine r_istore_n (ls2 := [some (.ref (a 0)), some (.ref (a 40)), some (.int (nI 0))]) 174 rfl d_Mod_keep_173 (by decide) rfl rfl ?_
                          have L174_9 : ∀ (f : Nat) (i5 : Nat), (i5 ≤ 10) → 10 - i5 < f → Runs X 1 M_Mod_keep 0 0 Q 174 [some (.ref (a 0)), some (.ref (a 40)), some (.int (nI i5))] [] 0 0 (MW X a ν (u2 σ 40 (kE σ (σ 40) i5)) τ) := by
                            intro f
                            induction f with
                            | zero => intro i5 hi5 hmu; exact absurd hmu (Nat.not_lt_zero _)
                            | succ f ih10 =>
                              intro i5 hi5 hmu
                              refine r_iload_n rfl 175 rfl d_Mod_keep_174 ?_
                              refine r_bipush (nI 10) rfl 177 rfl d_Mod_keep_175 ?_
                              refine r_icmp_geN i5 10 (by omega) (by omega) 180 210 rfl rfl d_Mod_keep_177 (fun h177 => ?_) (fun h177 => ?_)
                              · refine r_iconst (nI 0) rfl 211 rfl d_Mod_keep_210 ?_
                                refine r_istore_n (ls2 := [some (.ref (a 0)), some (.ref (a 40)), some (.int (nI 0))]) 212 rfl d_Mod_keep_211 (by decide) rfl rfl ?_
                                have L212_11 : ∀ (f : Nat) (i6 : Nat), (i6 ≤ 8) → 8 - i6 < f → Runs X 1 M_Mod_keep 0 0 Q 212 [some (.ref (a 0)), some (.ref (a 40)), some (.int (nI i6))] [] 0 0 (MW X a ν (u2 σ 40 (kF σ (σ 40) i6)) τ) := by
                                  intro f
                                  induction f with
                                  | zero => intro i6 hi6 hmu; exact absurd hmu (Nat.not_lt_zero _)
                                  | succ f ih12 =>
                                    intro i6 hi6 hmu
                                    refine r_iload_n rfl 213 rfl d_Mod_keep_212 ?_
                                    refine r_bipush (nI 8) rfl 215 rfl d_Mod_keep_213 ?_
                                    refine r_icmp_geN i6 8 (by omega) (by omega) 218 262 rfl rfl d_Mod_keep_215 (fun h215 => ?_) (fun h215 => ?_)
                                    · refine r_aload_n rfl 263 rfl d_Mod_keep_262 ?_
                                      refine r_sipush (nI 147) rfl 266 rfl d_Mod_keep_263 ?_
                                      refine r_aload_n rfl 267 rfl d_Mod_keep_266 ?_
                                      refine r_getf (v := .int (nI (ν 0))) gf_Mod_111 0 rfl rfl 270 rfl d_Mod_keep_267 ?_
                                      refine r_iast (w2 := MW X a ν (u2 (u2 σ 40 (kF σ (σ 40) i6)) 40 (upd (kF σ (σ 40) i6) 147 (nI (ν 0)))) τ) 26 rfl 147 rfl (by omega) (by omega) rfl 271 rfl d_Mod_keep_270 ?_
                                      refine r_aload_n rfl 272 rfl d_Mod_keep_271 ?_
                                      refine r_sipush (nI 148) rfl 275 rfl d_Mod_keep_272 ?_
                                      refine r_aload_n rfl 276 rfl d_Mod_keep_275 ?_
                                      refine r_getf (v := .int (nI (ν 6))) gf_Mod_240 0 rfl rfl 279 rfl d_Mod_keep_276 ?_
                                      refine r_iast (w2 := MW X a ν (u2 (u2 (u2 σ 40 (kF σ (σ 40) i6)) 40 (upd (kF σ (σ 40) i6) 147 (nI (ν 0)))) 40 (upd (upd (kF σ (σ 40) i6) 147 (nI (ν 0))) 148 (nI (ν 6)))) τ) 26 rfl 148 rfl (by omega) (by omega) rfl 280 rfl d_Mod_keep_279 ?_
                                      refine r_aload_n rfl 281 rfl d_Mod_keep_280 ?_
                                      refine r_sipush (nI 149) rfl 284 rfl d_Mod_keep_281 ?_
                                      refine r_aload_n rfl 285 rfl d_Mod_keep_284 ?_
                                      refine r_getf (v := .int (nI (ν 23))) gf_Mod_297 0 rfl rfl 288 rfl d_Mod_keep_285 ?_
                                      refine r_iast (w2 := MW X a ν (u2 (u2 (u2 (u2 σ 40 (kF σ (σ 40) i6)) 40 (upd (kF σ (σ 40) i6) 147 (nI (ν 0)))) 40 (upd (upd (kF σ (σ 40) i6) 147 (nI (ν 0))) 148 (nI (ν 6)))) 40 (upd (upd (upd (kF σ (σ 40) i6) 147 (nI (ν 0))) 148 (nI (ν 6))) 149 (nI (ν 23)))) τ) 26 rfl 149 rfl (by omega) (by omega) rfl 289 rfl d_Mod_keep_288 ?_
                                      refine r_aload_n rfl 290 rfl d_Mod_keep_289 ?_
                                      refine r_sipush (nI 150) rfl 293 rfl d_Mod_keep_290 ?_
                                      refine r_aload_n rfl 294 rfl d_Mod_keep_293 ?_
                                      refine r_getf (v := .int (nI (ν 29))) gf_Mod_312 0 rfl rfl 297 rfl d_Mod_keep_294 ?_
                                      refine r_iast (w2 := MW X a ν (u2 (u2 (u2 (u2 (u2 σ 40 (kF σ (σ 40) i6)) 40 (upd (kF σ (σ 40) i6) 147 (nI (ν 0)))) 40 (upd (upd (kF σ (σ 40) i6) 147 (nI (ν 0))) 148 (nI (ν 6)))) 40 (upd (upd (upd (kF σ (σ 40) i6) 147 (nI (ν 0))) 148 (nI (ν 6))) 149 (nI (ν 23)))) 40 (upd (upd (upd (upd (kF σ (σ 40) i6) 147 (nI (ν 0))) 148 (nI (ν 6))) 149 (nI (ν 23))) 150 (nI (ν 29)))) τ) 26 rfl 150 rfl (by omega) (by omega) rfl 298 rfl d_Mod_keep_297 ?_
                                      refine r_aload_n rfl 299 rfl d_Mod_keep_298 ?_
                                      refine r_sipush (nI 151) rfl 302 rfl d_Mod_keep_299 ?_
                                      refine r_aload_n rfl 303 rfl d_Mod_keep_302 ?_
                                      refine r_getf (v := .int (nI (ν 32))) gf_Mod_319 0 rfl rfl 306 rfl d_Mod_keep_303 ?_
                                      refine r_iast (w2 := MW X a ν (u2 (u2 (u2 (u2 (u2 (u2 σ 40 (kF σ (σ 40) i6)) 40 (upd (kF σ (σ 40) i6) 147 (nI (ν 0)))) 40 (upd (upd (kF σ (σ 40) i6) 147 (nI (ν 0))) 148 (nI (ν 6)))) 40 (upd (upd (upd (kF σ (σ 40) i6) 147 (nI (ν 0))) 148 (nI (ν 6))) 149 (nI (ν 23)))) 40 (upd (upd (upd (upd (kF σ (σ 40) i6) 147 (nI (ν 0))) 148 (nI (ν 6))) 149 (nI (ν 23))) 150 (nI (ν 29)))) 40 (upd (upd (upd (upd (upd (kF σ (σ 40) i6) 147 (nI (ν 0))) 148 (nI (ν 6))) 149 (nI (ν 23))) 150 (nI (ν 29))) 151 (nI (ν 32)))) τ) 26 rfl 151 rfl (by omega) (by omega) rfl 307 rfl d_Mod_keep_306 ?_
                                      refine r_aload_n rfl 308 rfl d_Mod_keep_307 ?_
                                      refine r_sipush (nI 152) rfl 311 rfl d_Mod_keep_308 ?_
                                      refine r_aload_n rfl 312 rfl d_Mod_keep_311 ?_
                                      refine r_getf (v := .int (σ 14 0)) gf_Mod_107 0 rfl rfl 315 rfl d_Mod_keep_312 ?_
                                      refine r_iast (w2 := MW X a ν (u2 (u2 (u2 (u2 (u2 (u2 (u2 σ 40 (kF σ (σ 40) i6)) 40 (upd (kF σ (σ 40) i6) 147 (nI (ν 0)))) 40 (upd (upd (kF σ (σ 40) i6) 147 (nI (ν 0))) 148 (nI (ν 6)))) 40 (upd (upd (upd (kF σ (σ 40) i6) 147 (nI (ν 0))) 148 (nI (ν 6))) 149 (nI (ν 23)))) 40 (upd (upd (upd (upd (kF σ (σ 40) i6) 147 (nI (ν 0))) 148 (nI (ν 6))) 149 (nI (ν 23))) 150 (nI (ν 29)))) 40 (upd (upd (upd (upd (upd (kF σ (σ 40) i6) 147 (nI (ν 0))) 148 (nI (ν 6))) 149 (nI (ν 23))) 150 (nI (ν 29))) 151 (nI (ν 32)))) 40 (upd (upd (upd (upd (upd (upd (kF σ (σ 40) i6) 147 (nI (ν 0))) 148 (nI (ν 6))) 149 (nI (ν 23))) 150 (nI (ν 29))) 151 (nI (ν 32))) 152 (σ 14 0))) τ) 26 rfl 152 rfl (by omega) (by omega) rfl 316 rfl d_Mod_keep_315 ?_
                                      exact r_vret rfl (Nat.zero_le _) (Nat.zero_le _) d_Mod_keep_316 (by rw [← hQ]; exact ⟨rfl, by rw [show i6 = 8 by omega]; simp only [u2_u2]; rfl⟩)
                                    · refine r_aload_n rfl 219 rfl d_Mod_keep_218 ?_
                                      refine r_bipush (nI 123) rfl 221 rfl d_Mod_keep_219 ?_
                                      refine r_iload_n rfl 222 rfl d_Mod_keep_221 ?_
                                      refine r_iadd 223 rfl d_Mod_keep_222 ?_
                                      refine r_topi (nI (123 + i6)) (nI_add _ _) ?_
                                      refine r_aload_n rfl 224 rfl d_Mod_keep_223 ?_
                                      refine r_getf (v := .ref (a 33)) gf_Mod_73 0 rfl rfl 227 rfl d_Mod_keep_224 ?_
                                      refine r_iload_n rfl 228 rfl d_Mod_keep_227 ?_
                                      refine r_iald 21 rfl i6 rfl (by omega) (by omega) 229 rfl d_Mod_keep_228 ?_
                                      refine r_iast (w2 := MW X a ν (u2 (u2 σ 40 (kF σ (σ 40) i6)) 40 (upd (kF σ (σ 40) i6) (123 + i6) (σ 33 i6))) τ) 26 rfl (123 + i6) rfl (by omega) (by omega) rfl 230 rfl d_Mod_keep_229 ?_
                                      refine r_aload_n rfl 231 rfl d_Mod_keep_230 ?_
                                      refine r_sipush (nI 131) rfl 234 rfl d_Mod_keep_231 ?_
                                      refine r_iload_n rfl 235 rfl d_Mod_keep_234 ?_
                                      refine r_iadd 236 rfl d_Mod_keep_235 ?_
                                      refine r_topi (nI (131 + i6)) (nI_add _ _) ?_
                                      refine r_aload_n rfl 237 rfl d_Mod_keep_236 ?_
                                      refine r_getf (v := .ref (a 34)) gf_Mod_76 0 rfl rfl 240 rfl d_Mod_keep_237 ?_
                                      refine r_iload_n rfl 241 rfl d_Mod_keep_240 ?_
                                      refine r_iald 22 rfl i6 rfl (by omega) (by omega) 242 rfl d_Mod_keep_241 ?_
                                      refine r_iast (w2 := MW X a ν (u2 (u2 (u2 σ 40 (kF σ (σ 40) i6)) 40 (upd (kF σ (σ 40) i6) (123 + i6) (σ 33 i6))) 40 (upd (upd (kF σ (σ 40) i6) (123 + i6) (σ 33 i6)) (131 + i6) (σ 34 i6))) τ) 26 rfl (131 + i6) rfl (by omega) (by omega) rfl 243 rfl d_Mod_keep_242 ?_
                                      refine r_aload_n rfl 244 rfl d_Mod_keep_243 ?_
                                      refine r_sipush (nI 139) rfl 247 rfl d_Mod_keep_244 ?_
                                      refine r_iload_n rfl 248 rfl d_Mod_keep_247 ?_
                                      refine r_iadd 249 rfl d_Mod_keep_248 ?_
                                      refine r_topi (nI (139 + i6)) (nI_add _ _) ?_
                                      refine r_aload_n rfl 250 rfl d_Mod_keep_249 ?_
                                      refine r_getf (v := .ref (a 35)) gf_Mod_79 0 rfl rfl 253 rfl d_Mod_keep_250 ?_
                                      refine r_iload_n rfl 254 rfl d_Mod_keep_253 ?_
                                      refine r_iald 23 rfl i6 rfl (by omega) (by omega) 255 rfl d_Mod_keep_254 ?_
                                      refine r_iast (w2 := MW X a ν (u2 (u2 (u2 (u2 σ 40 (kF σ (σ 40) i6)) 40 (upd (kF σ (σ 40) i6) (123 + i6) (σ 33 i6))) 40 (upd (upd (kF σ (σ 40) i6) (123 + i6) (σ 33 i6)) (131 + i6) (σ 34 i6))) 40 (upd (upd (upd (kF σ (σ 40) i6) (123 + i6) (σ 33 i6)) (131 + i6) (σ 34 i6)) (139 + i6) (σ 35 i6))) τ) 26 rfl (139 + i6) rfl (by omega) (by omega) rfl 256 rfl d_Mod_keep_255 ?_
                                      refine r_iinc (ls2 := [some (.ref (a 0)), some (.ref (a 40)), some (.int (nI (i6 + 1)))]) (nI (i6 + 1)) rfl (nI_1 _) 259 rfl d_Mod_keep_256 (by decide) rfl rfl ?_
                                      refine r_goto 212 rfl d_Mod_keep_259 ?_
                                      refine Runs.cast (ih12 (i6 + 1) (by omega) (by omega)) (rfl) rfl (by rw [u2_u2, u2_u2, u2_u2, kF_s (by omega)])
                                refine Runs.cast (L212_11 _ 0 (by omega) (Nat.lt_succ_self _)) (rfl) rfl (by rw [show i5 = 10 by omega, kF_0])
                              · refine r_aload_n rfl 181 rfl d_Mod_keep_180 ?_
                                refine r_bipush (nI 103) rfl 183 rfl d_Mod_keep_181 ?_
                                refine r_iload_n rfl 184 rfl d_Mod_keep_183 ?_
                                refine r_iadd 185 rfl d_Mod_keep_184 ?_
                                refine r_topi (nI (103 + i5)) (nI_add _ _) ?_
                                refine r_aload_n rfl 186 rfl d_Mod_keep_185 ?_
                                refine r_getf (v := .ref (a 30)) gf_Mod_67 0 rfl rfl 189 rfl d_Mod_keep_186 ?_
                                refine r_iload_n rfl 190 rfl d_Mod_keep_189 ?_
                                refine r_iald 19 rfl i5 rfl (by omega) (by omega) 191 rfl d_Mod_keep_190 ?_
                                refine r_iast (w2 := MW X a ν (u2 (u2 σ 40 (kE σ (σ 40) i5)) 40 (upd (kE σ (σ 40) i5) (103 + i5) (σ 30 i5))) τ) 26 rfl (103 + i5) rfl (by omega) (by omega) rfl 192 rfl d_Mod_keep_191 ?_
                                refine r_aload_n rfl 193 rfl d_Mod_keep_192 ?_
                                refine r_bipush (nI 113) rfl 195 rfl d_Mod_keep_193 ?_
                                refine r_iload_n rfl 196 rfl d_Mod_keep_195 ?_
                                refine r_iadd 197 rfl d_Mod_keep_196 ?_
                                refine r_topi (nI (113 + i5)) (nI_add _ _) ?_
                                refine r_aload_n rfl 198 rfl d_Mod_keep_197 ?_
                                refine r_getf (v := .ref (a 31)) gf_Mod_70 0 rfl rfl 201 rfl d_Mod_keep_198 ?_
                                refine r_iload_n rfl 202 rfl d_Mod_keep_201 ?_
                                refine r_iald 20 rfl i5 rfl (by omega) (by omega) 203 rfl d_Mod_keep_202 ?_
                                refine r_iast (w2 := MW X a ν (u2 (u2 (u2 σ 40 (kE σ (σ 40) i5)) 40 (upd (kE σ (σ 40) i5) (103 + i5) (σ 30 i5))) 40 (upd (upd (kE σ (σ 40) i5) (103 + i5) (σ 30 i5)) (113 + i5) (σ 31 i5))) τ) 26 rfl (113 + i5) rfl (by omega) (by omega) rfl 204 rfl d_Mod_keep_203 ?_
                                refine r_iinc (ls2 := [some (.ref (a 0)), some (.ref (a 40)), some (.int (nI (i5 + 1)))]) (nI (i5 + 1)) rfl (nI_1 _) 207 rfl d_Mod_keep_204 (by decide) rfl rfl ?_
                                refine r_goto 174 rfl d_Mod_keep_207 ?_
                                refine Runs.cast (ih10 (i5 + 1) (by omega) (by omega)) (rfl) rfl (by rw [u2_u2, u2_u2, kE_s (by omega)])
                          refine Runs.cast (L174_9 _ 0 (by omega) (Nat.lt_succ_self _)) (rfl) rfl (by rw [show i4 = 5 by omega, kE_0])
                        · refine r_aload_n rfl 107 rfl d_Mod_keep_106 ?_
                          refine r_bipush (nI 78) rfl 109 rfl d_Mod_keep_107 ?_
                          refine r_iload_n rfl 110 rfl d_Mod_keep_109 ?_
                          refine r_iadd 111 rfl d_Mod_keep_110 ?_
                          refine r_topi (nI (78 + i4)) (nI_add _ _) ?_
                          refine r_aload_n rfl 112 rfl d_Mod_keep_111 ?_
                          refine r_getf (v := .ref (a 24)) gf_Mod_52 0 rfl rfl 115 rfl d_Mod_keep_112 ?_
                          refine r_iload_n rfl 116 rfl d_Mod_keep_115 ?_
                          refine r_iald 14 rfl i4 rfl (by omega) (by omega) 117 rfl d_Mod_keep_116 ?_
                          refine r_iast (w2 := MW X a ν (u2 (u2 σ 40 (kD σ (σ 40) i4)) 40 (upd (kD σ (σ 40) i4) (78 + i4) (σ 24 i4))) τ) 26 rfl (78 + i4) rfl (by omega) (by omega) rfl 118 rfl d_Mod_keep_117 ?_
                          refine r_aload_n rfl 119 rfl d_Mod_keep_118 ?_
                          refine r_bipush (nI 83) rfl 121 rfl d_Mod_keep_119 ?_
                          refine r_iload_n rfl 122 rfl d_Mod_keep_121 ?_
                          refine r_iadd 123 rfl d_Mod_keep_122 ?_
                          refine r_topi (nI (83 + i4)) (nI_add _ _) ?_
                          refine r_aload_n rfl 124 rfl d_Mod_keep_123 ?_
                          refine r_getf (v := .ref (a 25)) gf_Mod_55 0 rfl rfl 127 rfl d_Mod_keep_124 ?_
                          refine r_iload_n rfl 128 rfl d_Mod_keep_127 ?_
                          refine r_iald 15 rfl i4 rfl (by omega) (by omega) 129 rfl d_Mod_keep_128 ?_
                          refine r_iast (w2 := MW X a ν (u2 (u2 (u2 σ 40 (kD σ (σ 40) i4)) 40 (upd (kD σ (σ 40) i4) (78 + i4) (σ 24 i4))) 40 (upd (upd (kD σ (σ 40) i4) (78 + i4) (σ 24 i4)) (83 + i4) (σ 25 i4))) τ) 26 rfl (83 + i4) rfl (by omega) (by omega) rfl 130 rfl d_Mod_keep_129 ?_
                          refine r_aload_n rfl 131 rfl d_Mod_keep_130 ?_
                          refine r_bipush (nI 88) rfl 133 rfl d_Mod_keep_131 ?_
                          refine r_iload_n rfl 134 rfl d_Mod_keep_133 ?_
                          refine r_iadd 135 rfl d_Mod_keep_134 ?_
                          refine r_topi (nI (88 + i4)) (nI_add _ _) ?_
                          refine r_aload_n rfl 136 rfl d_Mod_keep_135 ?_
                          refine r_getf (v := .ref (a 26)) gf_Mod_58 0 rfl rfl 139 rfl d_Mod_keep_136 ?_
                          refine r_iload_n rfl 140 rfl d_Mod_keep_139 ?_
                          refine r_iald 16 rfl i4 rfl (by omega) (by omega) 141 rfl d_Mod_keep_140 ?_
                          refine r_iast (w2 := MW X a ν (u2 (u2 (u2 (u2 σ 40 (kD σ (σ 40) i4)) 40 (upd (kD σ (σ 40) i4) (78 + i4) (σ 24 i4))) 40 (upd (upd (kD σ (σ 40) i4) (78 + i4) (σ 24 i4)) (83 + i4) (σ 25 i4))) 40 (upd (upd (upd (kD σ (σ 40) i4) (78 + i4) (σ 24 i4)) (83 + i4) (σ 25 i4)) (88 + i4) (σ 26 i4))) τ) 26 rfl (88 + i4) rfl (by omega) (by omega) rfl 142 rfl d_Mod_keep_141 ?_
                          refine r_aload_n rfl 143 rfl d_Mod_keep_142 ?_
                          refine r_bipush (nI 93) rfl 145 rfl d_Mod_keep_143 ?_
                          refine r_iload_n rfl 146 rfl d_Mod_keep_145 ?_
                          refine r_iadd 147 rfl d_Mod_keep_146 ?_
                          refine r_topi (nI (93 + i4)) (nI_add _ _) ?_
                          refine r_aload_n rfl 148 rfl d_Mod_keep_147 ?_
                          refine r_getf (v := .ref (a 27)) gf_Mod_61 0 rfl rfl 151 rfl d_Mod_keep_148 ?_
                          refine r_iload_n rfl 152 rfl d_Mod_keep_151 ?_
                          refine r_iald 17 rfl i4 rfl (by omega) (by omega) 153 rfl d_Mod_keep_152 ?_
                          refine r_iast (w2 := MW X a ν (u2 (u2 (u2 (u2 (u2 σ 40 (kD σ (σ 40) i4)) 40 (upd (kD σ (σ 40) i4) (78 + i4) (σ 24 i4))) 40 (upd (upd (kD σ (σ 40) i4) (78 + i4) (σ 24 i4)) (83 + i4) (σ 25 i4))) 40 (upd (upd (upd (kD σ (σ 40) i4) (78 + i4) (σ 24 i4)) (83 + i4) (σ 25 i4)) (88 + i4) (σ 26 i4))) 40 (upd (upd (upd (upd (kD σ (σ 40) i4) (78 + i4) (σ 24 i4)) (83 + i4) (σ 25 i4)) (88 + i4) (σ 26 i4)) (93 + i4) (σ 27 i4))) τ) 26 rfl (93 + i4) rfl (by omega) (by omega) rfl 154 rfl d_Mod_keep_153 ?_
                          refine r_aload_n rfl 155 rfl d_Mod_keep_154 ?_
                          refine r_bipush (nI 98) rfl 157 rfl d_Mod_keep_155 ?_
                          refine r_iload_n rfl 158 rfl d_Mod_keep_157 ?_
                          refine r_iadd 159 rfl d_Mod_keep_158 ?_
                          refine r_topi (nI (98 + i4)) (nI_add _ _) ?_
                          refine r_aload_n rfl 160 rfl d_Mod_keep_159 ?_
                          refine r_getf (v := .ref (a 28)) gf_Mod_64 0 rfl rfl 163 rfl d_Mod_keep_160 ?_
                          refine r_iload_n rfl 164 rfl d_Mod_keep_163 ?_
                          refine r_iald 18 rfl i4 rfl (by omega) (by omega) 165 rfl d_Mod_keep_164 ?_
                          refine r_iast (w2 := MW X a ν (u2 (u2 (u2 (u2 (u2 (u2 σ 40 (kD σ (σ 40) i4)) 40 (upd (kD σ (σ 40) i4) (78 + i4) (σ 24 i4))) 40 (upd (upd (kD σ (σ 40) i4) (78 + i4) (σ 24 i4)) (83 + i4) (σ 25 i4))) 40 (upd (upd (upd (kD σ (σ 40) i4) (78 + i4) (σ 24 i4)) (83 + i4) (σ 25 i4)) (88 + i4) (σ 26 i4))) 40 (upd (upd (upd (upd (kD σ (σ 40) i4) (78 + i4) (σ 24 i4)) (83 + i4) (σ 25 i4)) (88 + i4) (σ 26 i4)) (93 + i4) (σ 27 i4))) 40 (upd (upd (upd (upd (upd (kD σ (σ 40) i4) (78 + i4) (σ 24 i4)) (83 + i4) (σ 25 i4)) (88 + i4) (σ 26 i4)) (93 + i4) (σ 27 i4)) (98 + i4) (σ 28 i4))) τ) 26 rfl (98 + i4) rfl (by omega) (by omega) rfl 166 rfl d_Mod_keep_165 ?_
                          refine r_iinc (ls2 := [some (.ref (a 0)), some (.ref (a 40)), some (.int (nI (i4 + 1)))]) (nI (i4 + 1)) rfl (nI_1 _) 169 rfl d_Mod_keep_166 (by decide) rfl rfl ?_
                          refine r_goto 101 rfl d_Mod_keep_169 ?_
                          refine Runs.cast (ih8 (i4 + 1) (by omega) (by omega)) (rfl) rfl (by rw [u2_u2, u2_u2, u2_u2, u2_u2, u2_u2, kD_s (by omega)])
                    refine Runs.cast (L101_7 _ 0 (by omega) (Nat.lt_succ_self _)) (rfl) rfl (by rw [show i3 = 36 by omega, kD_0])
                  · refine r_aload_n rfl 82 rfl d_Mod_keep_81 ?_
                    refine r_bipush (nI 42) rfl 84 rfl d_Mod_keep_82 ?_
                    refine r_iload_n rfl 85 rfl d_Mod_keep_84 ?_
                    refine r_iadd 86 rfl d_Mod_keep_85 ?_
                    refine r_topi (nI (42 + i3)) (nI_add _ _) ?_
                    refine r_aload_n rfl 87 rfl d_Mod_keep_86 ?_
                    refine r_getf (v := .ref (a 5)) gf_Mod_24 0 rfl rfl 90 rfl d_Mod_keep_87 ?_
                    refine r_iload_n rfl 91 rfl d_Mod_keep_90 ?_
                    refine r_iald 5 rfl i3 rfl (by omega) (by omega) 92 rfl d_Mod_keep_91 ?_
                    refine r_iast (w2 := MW X a ν (u2 (u2 σ 40 (kC σ (σ 40) i3)) 40 (upd (kC σ (σ 40) i3) (42 + i3) (σ 5 i3))) τ) 26 rfl (42 + i3) rfl (by omega) (by omega) rfl 93 rfl d_Mod_keep_92 ?_
                    refine r_iinc (ls2 := [some (.ref (a 0)), some (.ref (a 40)), some (.int (nI (i3 + 1)))]) (nI (i3 + 1)) rfl (nI_1 _) 96 rfl d_Mod_keep_93 (by decide) rfl rfl ?_
                    refine r_goto 75 rfl d_Mod_keep_96 ?_
                    refine Runs.cast (ih6 (i3 + 1) (by omega) (by omega)) (rfl) rfl (by rw [u2_u2]; congr 1; congr 1; exact cpy_s0)
              refine Runs.cast (L75_5 _ 0 (by omega) (Nat.lt_succ_self _)) (rfl) rfl (by rw [show i2 = 24 by omega, kC_0])
            · refine r_aload_n rfl 56 rfl d_Mod_keep_55 ?_
              refine r_bipush (nI 18) rfl 58 rfl d_Mod_keep_56 ?_
              refine r_iload_n rfl 59 rfl d_Mod_keep_58 ?_
              refine r_iadd 60 rfl d_Mod_keep_59 ?_
              refine r_topi (nI (18 + i2)) (nI_add _ _) ?_
              refine r_aload_n rfl 61 rfl d_Mod_keep_60 ?_
              refine r_getf (v := .ref (a 4)) gf_Mod_21 0 rfl rfl 64 rfl d_Mod_keep_61 ?_
              refine r_iload_n rfl 65 rfl d_Mod_keep_64 ?_
              refine r_iald 4 rfl i2 rfl (by omega) (by omega) 66 rfl d_Mod_keep_65 ?_
              refine r_iast (w2 := MW X a ν (u2 (u2 σ 40 (kB σ (σ 40) i2)) 40 (upd (kB σ (σ 40) i2) (18 + i2) (σ 4 i2))) τ) 26 rfl (18 + i2) rfl (by omega) (by omega) rfl 67 rfl d_Mod_keep_66 ?_
              refine r_iinc (ls2 := [some (.ref (a 0)), some (.ref (a 40)), some (.int (nI (i2 + 1)))]) (nI (i2 + 1)) rfl (nI_1 _) 70 rfl d_Mod_keep_67 (by decide) rfl rfl ?_
              refine r_goto 49 rfl d_Mod_keep_70 ?_
              refine Runs.cast (ih4 (i2 + 1) (by omega) (by omega)) (rfl) rfl (by rw [u2_u2]; congr 1; congr 1; exact cpy_s0)
        refine Runs.cast (L49_3 _ 0 (by omega) (Nat.lt_succ_self _)) (rfl) rfl (by rw [show i1 = 6 by omega, kB_0])
      · refine r_aload_n rfl 9 rfl d_Mod_keep_8 ?_
        refine r_iload_n rfl 10 rfl d_Mod_keep_9 ?_
        refine r_aload_n rfl 11 rfl d_Mod_keep_10 ?_
        refine r_getf (v := .ref (a 1)) gf_Mod_9 0 rfl rfl 14 rfl d_Mod_keep_11 ?_
        refine r_iload_n rfl 15 rfl d_Mod_keep_14 ?_
        refine r_iald 1 rfl i1 rfl (by omega) (by omega) 16 rfl d_Mod_keep_15 ?_
        refine r_iast (w2 := MW X a ν (u2 (u2 σ 40 (kA σ (σ 40) i1)) 40 (upd (kA σ (σ 40) i1) i1 (σ 1 i1))) τ) 26 rfl i1 rfl (by omega) (by omega) rfl 17 rfl d_Mod_keep_16 ?_
        refine r_aload_n rfl 18 rfl d_Mod_keep_17 ?_
        refine r_bipush (nI 6) rfl 20 rfl d_Mod_keep_18 ?_
        refine r_iload_n rfl 21 rfl d_Mod_keep_20 ?_
        refine r_iadd 22 rfl d_Mod_keep_21 ?_
        refine r_topi (nI (6 + i1)) (nI_add _ _) ?_
        refine r_aload_n rfl 23 rfl d_Mod_keep_22 ?_
        refine r_getf (v := .ref (a 2)) gf_Mod_15 0 rfl rfl 26 rfl d_Mod_keep_23 ?_
        refine r_iload_n rfl 27 rfl d_Mod_keep_26 ?_
        refine r_iald 2 rfl i1 rfl (by omega) (by omega) 28 rfl d_Mod_keep_27 ?_
        refine r_iast (w2 := MW X a ν (u2 (u2 (u2 σ 40 (kA σ (σ 40) i1)) 40 (upd (kA σ (σ 40) i1) i1 (σ 1 i1))) 40 (upd (upd (kA σ (σ 40) i1) i1 (σ 1 i1)) (6 + i1) (σ 2 i1))) τ) 26 rfl (6 + i1) rfl (by omega) (by omega) rfl 29 rfl d_Mod_keep_28 ?_
        refine r_aload_n rfl 30 rfl d_Mod_keep_29 ?_
        refine r_bipush (nI 12) rfl 32 rfl d_Mod_keep_30 ?_
        refine r_iload_n rfl 33 rfl d_Mod_keep_32 ?_
        refine r_iadd 34 rfl d_Mod_keep_33 ?_
        refine r_topi (nI (12 + i1)) (nI_add _ _) ?_
        refine r_aload_n rfl 35 rfl d_Mod_keep_34 ?_
        refine r_getf (v := .ref (a 3)) gf_Mod_18 0 rfl rfl 38 rfl d_Mod_keep_35 ?_
        refine r_iload_n rfl 39 rfl d_Mod_keep_38 ?_
        refine r_iald 3 rfl i1 rfl (by omega) (by omega) 40 rfl d_Mod_keep_39 ?_
        refine r_iast (w2 := MW X a ν (u2 (u2 (u2 (u2 σ 40 (kA σ (σ 40) i1)) 40 (upd (kA σ (σ 40) i1) i1 (σ 1 i1))) 40 (upd (upd (kA σ (σ 40) i1) i1 (σ 1 i1)) (6 + i1) (σ 2 i1))) 40 (upd (upd (upd (kA σ (σ 40) i1) i1 (σ 1 i1)) (6 + i1) (σ 2 i1)) (12 + i1) (σ 3 i1))) τ) 26 rfl (12 + i1) rfl (by omega) (by omega) rfl 41 rfl d_Mod_keep_40 ?_
        refine r_iinc (ls2 := [some (.ref (a 0)), some (.ref (a 40)), some (.int (nI (i1 + 1)))]) (nI (i1 + 1)) rfl (nI_1 _) 44 rfl d_Mod_keep_41 (by decide) rfl rfl ?_
        refine r_goto 2 rfl d_Mod_keep_44 ?_
        refine Runs.cast (ih2 (i1 + 1) (by omega) (by omega)) (rfl) rfl (by rw [u2_u2, u2_u2, u2_u2, kA_s (by omega)])
  refine Runs.cast (L2_1 _ 0 (by omega) (Nat.lt_succ_self _)) (rfl) rfl (by rw [kA_0, u2_self])
theorem c_Mod_again40 (X : Xn) (a ν : Nat → Nat) (σ : Nat → Nat → Int32) (τ : Nat → Int64) (n0 d0 s0 p0 b0 : Nat) (e147 : σ 40 147 = nI n0) (e148 : σ 40 148 = nI d0) (e149 : σ 40 149 = nI s0) (e150 : σ 40 150 = nI p0) (e151 : σ 40 151 = nI b0) : Does X 1 M_Mod_again [.ref (a 0), .ref (a 40)] (MW X a ν σ τ) 0 0 (fun (vv : Option Value) (ww : va_W) => vv = none ∧ ww = MW X a (u1 (u1 (u1 (u1 (u1 ν 0 n0) 6 d0) 23 s0) 29 p0) 32 b0) (againF σ (σ 40)) τ) := by
  generalize hQ : (fun (vv : Option Value) (ww : va_W) => vv = none ∧ ww = MW X a (u1 (u1 (u1 (u1 (u1 ν 0 n0) 6 d0) 23 s0) 29 p0) 32 b0) (againF σ (σ 40)) τ) = Q
  refine Does.go rfl (Nat.le_of_ble_eq_true rfl) [some (.ref (a 0)), some (.ref (a 40)), none] 1 rfl ?_
  refine r_iconst (nI 0) rfl 1 rfl d_Mod_again_0 ?_
  refine r_istore_n (ls2 := [some (.ref (a 0)), some (.ref (a 40)), some (.int (nI 0))]) 2 rfl d_Mod_again_1 (by decide) rfl rfl ?_
  have L2_1 : ∀ (f : Nat) (i1 : Nat), (i1 ≤ 6) → 6 - i1 < f → Runs X 1 M_Mod_again 0 0 Q 2 [some (.ref (a 0)), some (.ref (a 40)), some (.int (nI i1))] [] 0 0 (MW X a ν (g3 σ (σ 40) i1) τ) := by
    intro f
    induction f with
    | zero => intro i1 hi1 hmu; exact absurd hmu (Nat.not_lt_zero _)
    | succ f ih2 =>
      intro i1 hi1 hmu
      refine r_iload_n rfl 3 rfl d_Mod_again_2 ?_
      refine r_bipush (nI 6) rfl 5 rfl d_Mod_again_3 ?_
      refine r_icmp_geN i1 6 (by omega) (by omega) 8 47 rfl rfl d_Mod_again_5 (fun h5 => ?_) (fun h5 => ?_)
      · refine r_iconst (nI 0) rfl 48 rfl d_Mod_again_47 ?_
        refine r_istore_n (ls2 := [some (.ref (a 0)), some (.ref (a 40)), some (.int (nI 0))]) 49 rfl d_Mod_again_48 (by decide) rfl rfl ?_
        have L49_3 : ∀ (f : Nat) (i2 : Nat), (i2 ≤ 24) → 24 - i2 < f → Runs X 1 M_Mod_again 0 0 Q 49 [some (.ref (a 0)), some (.ref (a 40)), some (.int (nI i2))] [] 0 0 (MW X a ν (g4 σ (σ 40) i2) τ) := by
          intro f
          induction f with
          | zero => intro i2 hi2 hmu; exact absurd hmu (Nat.not_lt_zero _)
          | succ f ih4 =>
            intro i2 hi2 hmu
            refine r_iload_n rfl 50 rfl d_Mod_again_49 ?_
            refine r_bipush (nI 24) rfl 52 rfl d_Mod_again_50 ?_
            refine r_icmp_geN i2 24 (by omega) (by omega) 55 73 rfl rfl d_Mod_again_52 (fun h52 => ?_) (fun h52 => ?_)
            · refine r_iconst (nI 0) rfl 74 rfl d_Mod_again_73 ?_
              refine r_istore_n (ls2 := [some (.ref (a 0)), some (.ref (a 40)), some (.int (nI 0))]) 75 rfl d_Mod_again_74 (by decide) rfl rfl ?_
              have L75_5 : ∀ (f : Nat) (i3 : Nat), (i3 ≤ 36) → 36 - i3 < f → Runs X 1 M_Mod_again 0 0 Q 75 [some (.ref (a 0)), some (.ref (a 40)), some (.int (nI i3))] [] 0 0 (MW X a ν (g5 σ (σ 40) i3) τ) := by
                intro f
                induction f with
                | zero => intro i3 hi3 hmu; exact absurd hmu (Nat.not_lt_zero _)
                | succ f ih6 =>
                  intro i3 hi3 hmu
                  refine r_iload_n rfl 76 rfl d_Mod_again_75 ?_
                  refine r_bipush (nI 36) rfl 78 rfl d_Mod_again_76 ?_
                  refine r_icmp_geN i3 36 (by omega) (by omega) 81 99 rfl rfl d_Mod_again_78 (fun h78 => ?_) (fun h78 => ?_)
                  · refine r_iconst (nI 0) rfl 100 rfl d_Mod_again_99 ?_
                    refine r_istore_n (ls2 := [some (.ref (a 0)), some (.ref (a 40)), some (.int (nI 0))]) 101 rfl d_Mod_again_100 (by decide) rfl rfl ?_
                    have L101_7 : ∀ (f : Nat) (i4 : Nat), (i4 ≤ 5) → 5 - i4 < f → Runs X 1 M_Mod_again 0 0 Q 101 [some (.ref (a 0)), some (.ref (a 40)), some (.int (nI i4))] [] 0 0 (MW X a ν (g6 σ (σ 40) i4) τ) := by
                      intro f
                      induction f with
                      | zero => intro i4 hi4 hmu; exact absurd hmu (Nat.not_lt_zero _)
                      | succ f ih8 =>
                        intro i4 hi4 hmu
                        refine r_iload_n rfl 102 rfl d_Mod_again_101 ?_
                        refine r_iconst (nI 5) rfl 103 rfl d_Mod_again_102 ?_
                        refine r_icmp_geN i4 5 (by omega) (by omega) 106 172 rfl rfl d_Mod_again_103 (fun h103 => ?_) (fun h103 => ?_)
                        · refine r_iconst (nI 0) rfl 173 rfl d_Mod_again_172 ?_
                          refine r_istore_n (ls2 := [some (.ref (a 0)), some (.ref (a 40)), some (.int (nI 0))]) 174 rfl d_Mod_again_173 (by decide) rfl rfl ?_
                          have L174_9 : ∀ (f : Nat) (i5 : Nat), (i5 ≤ 10) → 10 - i5 < f → Runs X 1 M_Mod_again 0 0 Q 174 [some (.ref (a 0)), some (.ref (a 40)), some (.int (nI i5))] [] 0 0 (MW X a ν (g7 σ (σ 40) i5) τ) := by
                            intro f
                            induction f with
                            | zero => intro i5 hi5 hmu; exact absurd hmu (Nat.not_lt_zero _)
                            | succ f ih10 =>
                              intro i5 hi5 hmu
                              refine r_iload_n rfl 175 rfl d_Mod_again_174 ?_
                              refine r_bipush (nI 10) rfl 177 rfl d_Mod_again_175 ?_
                              refine r_icmp_geN i5 10 (by omega) (by omega) 180 210 rfl rfl d_Mod_again_177 (fun h177 => ?_) (fun h177 => ?_)
                              · refine r_iconst (nI 0) rfl 211 rfl d_Mod_again_210 ?_
                                refine r_istore_n (ls2 := [some (.ref (a 0)), some (.ref (a 40)), some (.int (nI 0))]) 212 rfl d_Mod_again_211 (by decide) rfl rfl ?_
                                have L212_11 : ∀ (f : Nat) (i6 : Nat), (i6 ≤ 8) → 8 - i6 < f → Runs X 1 M_Mod_again 0 0 Q 212 [some (.ref (a 0)), some (.ref (a 40)), some (.int (nI i6))] [] 0 0 (MW X a ν (g8 σ (σ 40) i6) τ) := by
                                  intro f
                                  induction f with
                                  | zero => intro i6 hi6 hmu; exact absurd hmu (Nat.not_lt_zero _)
                                  | succ f ih12 =>
                                    intro i6 hi6 hmu
                                    refine r_iload_n rfl 213 rfl d_Mod_again_212 ?_
                                    refine r_bipush (nI 8) rfl 215 rfl d_Mod_again_213 ?_
                                    refine r_icmp_geN i6 8 (by omega) (by omega) 218 262 rfl rfl d_Mod_again_215 (fun h215 => ?_) (fun h215 => ?_)
                                    · refine r_aload_n rfl 263 rfl d_Mod_again_262 ?_
                                      refine r_aload_n rfl 264 rfl d_Mod_again_263 ?_
                                      refine r_sipush (nI 147) rfl 267 rfl d_Mod_again_264 ?_
                                      refine r_iald 26 rfl 147 rfl (by omega) (by omega) 268 rfl d_Mod_again_267 ?_
                                      refine r_topi (nI n0) (e147) ?_
                                      refine r_putf (w2 := MW X a (u1 ν 0 n0) (g8 σ (σ 40) i6) τ) pf_Mod_111 0 rfl (rfl) rfl (Nat.le_of_ble_eq_true rfl) rfl 271 rfl d_Mod_again_268 ?_
                                      refine r_aload_n rfl 272 rfl d_Mod_again_271 ?_
                                      refine r_aload_n rfl 273 rfl d_Mod_again_272 ?_
                                      refine r_sipush (nI 148) rfl 276 rfl d_Mod_again_273 ?_
                                      refine r_iald 26 rfl 148 rfl (by omega) (by omega) 277 rfl d_Mod_again_276 ?_
                                      refine r_topi (nI d0) (e148) ?_
                                      refine r_putf (w2 := MW X a (u1 (u1 ν 0 n0) 6 d0) (g8 σ (σ 40) i6) τ) pf_Mod_240 0 rfl (rfl) rfl (Nat.le_of_ble_eq_true rfl) rfl 280 rfl d_Mod_again_277 ?_
                                      refine r_aload_n rfl 281 rfl d_Mod_again_280 ?_
                                      refine r_aload_n rfl 282 rfl d_Mod_again_281 ?_
                                      refine r_sipush (nI 149) rfl 285 rfl d_Mod_again_282 ?_
                                      refine r_iald 26 rfl 149 rfl (by omega) (by omega) 286 rfl d_Mod_again_285 ?_
                                      refine r_topi (nI s0) (e149) ?_
                                      refine r_putf (w2 := MW X a (u1 (u1 (u1 ν 0 n0) 6 d0) 23 s0) (g8 σ (σ 40) i6) τ) pf_Mod_297 0 rfl (rfl) rfl (Nat.le_of_ble_eq_true rfl) rfl 289 rfl d_Mod_again_286 ?_
                                      refine r_aload_n rfl 290 rfl d_Mod_again_289 ?_
                                      refine r_aload_n rfl 291 rfl d_Mod_again_290 ?_
                                      refine r_sipush (nI 150) rfl 294 rfl d_Mod_again_291 ?_
                                      refine r_iald 26 rfl 150 rfl (by omega) (by omega) 295 rfl d_Mod_again_294 ?_
                                      refine r_topi (nI p0) (e150) ?_
                                      refine r_putf (w2 := MW X a (u1 (u1 (u1 (u1 ν 0 n0) 6 d0) 23 s0) 29 p0) (g8 σ (σ 40) i6) τ) pf_Mod_312 0 rfl (rfl) rfl (Nat.le_of_ble_eq_true rfl) rfl 298 rfl d_Mod_again_295 ?_
                                      refine r_aload_n rfl 299 rfl d_Mod_again_298 ?_
                                      refine r_aload_n rfl 300 rfl d_Mod_again_299 ?_
                                      refine r_sipush (nI 151) rfl 303 rfl d_Mod_again_300 ?_
                                      refine r_iald 26 rfl 151 rfl (by omega) (by omega) 304 rfl d_Mod_again_303 ?_
                                      refine r_topi (nI b0) (e151) ?_
                                      refine r_putf (w2 := MW X a (u1 (u1 (u1 (u1 (u1 ν 0 n0) 6 d0) 23 s0) 29 p0) 32 b0) (g8 σ (σ 40) i6) τ) pf_Mod_319 0 rfl (rfl) rfl (Nat.le_of_ble_eq_true rfl) rfl 307 rfl d_Mod_again_304 ?_
                                      refine r_aload_n rfl 308 rfl d_Mod_again_307 ?_
                                      refine r_aload_n rfl 309 rfl d_Mod_again_308 ?_
                                      refine r_sipush (nI 152) rfl 312 rfl d_Mod_again_309 ?_
                                      refine r_iald 26 rfl 152 rfl (by omega) (by omega) 313 rfl d_Mod_again_312 ?_
                                      refine r_putf (w2 := MW X a (u1 (u1 (u1 (u1 (u1 ν 0 n0) 6 d0) 23 s0) 29 p0) 32 b0) (u2 (g8 σ (σ 40) i6) 14 (upd (σ 14) 0 (σ 40 152))) τ) pf_Mod_107 0 rfl (rfl) rfl (Nat.le_of_ble_eq_true rfl) rfl 316 rfl d_Mod_again_313 ?_
                                      exact r_vret rfl (Nat.zero_le _) (Nat.zero_le _) d_Mod_again_316 (by rw [← hQ]; exact ⟨rfl, by rw [show i6 = 8 by omega]; rfl⟩)
                                    · refine r_aload_n rfl 219 rfl d_Mod_again_218 ?_
                                      refine r_getf (v := .ref (a 33)) gf_Mod_73 0 rfl rfl 222 rfl d_Mod_again_219 ?_
                                      refine r_iload_n rfl 223 rfl d_Mod_again_222 ?_
                                      refine r_aload_n rfl 224 rfl d_Mod_again_223 ?_
                                      refine r_bipush (nI 123) rfl 226 rfl d_Mod_again_224 ?_
                                      refine r_iload_n rfl 227 rfl d_Mod_again_226 ?_
                                      refine r_iadd 228 rfl d_Mod_again_227 ?_
                                      refine r_topi (nI (123 + i6)) (nI_add _ _) ?_
                                      refine r_iald 26 rfl (123 + i6) rfl (by omega) (by omega) 229 rfl d_Mod_again_228 ?_
                                      refine r_iast (w2 := MW X a ν (u2 (g8 σ (σ 40) i6) 33 (upd (va_cpy (σ 40) (σ 33) 123 0 i6) i6 (σ 40 (123 + i6)))) τ) 21 rfl i6 rfl (by omega) (by omega) rfl 230 rfl d_Mod_again_229 ?_
                                      refine r_aload_n rfl 231 rfl d_Mod_again_230 ?_
                                      refine r_getf (v := .ref (a 34)) gf_Mod_76 0 rfl rfl 234 rfl d_Mod_again_231 ?_
                                      refine r_iload_n rfl 235 rfl d_Mod_again_234 ?_
                                      refine r_aload_n rfl 236 rfl d_Mod_again_235 ?_
                                      refine r_sipush (nI 131) rfl 239 rfl d_Mod_again_236 ?_
                                      refine r_iload_n rfl 240 rfl d_Mod_again_239 ?_
                                      refine r_iadd 241 rfl d_Mod_again_240 ?_
                                      refine r_topi (nI (131 + i6)) (nI_add _ _) ?_
                                      refine r_iald 26 rfl (131 + i6) rfl (by omega) (by omega) 242 rfl d_Mod_again_241 ?_
                                      refine r_iast (w2 := MW X a ν (u2 (u2 (g8 σ (σ 40) i6) 33 (upd (va_cpy (σ 40) (σ 33) 123 0 i6) i6 (σ 40 (123 + i6)))) 34 (upd (va_cpy (σ 40) (σ 34) 131 0 i6) i6 (σ 40 (131 + i6)))) τ) 22 rfl i6 rfl (by omega) (by omega) rfl 243 rfl d_Mod_again_242 ?_
                                      refine r_aload_n rfl 244 rfl d_Mod_again_243 ?_
                                      refine r_getf (v := .ref (a 35)) gf_Mod_79 0 rfl rfl 247 rfl d_Mod_again_244 ?_
                                      refine r_iload_n rfl 248 rfl d_Mod_again_247 ?_
                                      refine r_aload_n rfl 249 rfl d_Mod_again_248 ?_
                                      refine r_sipush (nI 139) rfl 252 rfl d_Mod_again_249 ?_
                                      refine r_iload_n rfl 253 rfl d_Mod_again_252 ?_
                                      refine r_iadd 254 rfl d_Mod_again_253 ?_
                                      refine r_topi (nI (139 + i6)) (nI_add _ _) ?_
                                      refine r_iald 26 rfl (139 + i6) rfl (by omega) (by omega) 255 rfl d_Mod_again_254 ?_
                                      refine r_iast (w2 := MW X a ν (u2 (u2 (u2 (g8 σ (σ 40) i6) 33 (upd (va_cpy (σ 40) (σ 33) 123 0 i6) i6 (σ 40 (123 + i6)))) 34 (upd (va_cpy (σ 40) (σ 34) 131 0 i6) i6 (σ 40 (131 + i6)))) 35 (upd (va_cpy (σ 40) (σ 35) 139 0 i6) i6 (σ 40 (139 + i6)))) τ) 23 rfl i6 rfl (by omega) (by omega) rfl 256 rfl d_Mod_again_255 ?_
                                      refine r_iinc (ls2 := [some (.ref (a 0)), some (.ref (a 40)), some (.int (nI (i6 + 1)))]) (nI (i6 + 1)) rfl (nI_1 _) 259 rfl d_Mod_again_256 (by decide) rfl rfl ?_
                                      refine r_goto 212 rfl d_Mod_again_259 ?_
                                      refine Runs.cast (ih12 (i6 + 1) (by omega) (by omega)) (rfl) rfl (by rw [g8_s])
                                refine Runs.cast (L212_11 _ 0 (by omega) (Nat.lt_succ_self _)) (rfl) rfl (by rw [show i5 = 10 by omega, g8_0])
                              · refine r_aload_n rfl 181 rfl d_Mod_again_180 ?_
                                refine r_getf (v := .ref (a 30)) gf_Mod_67 0 rfl rfl 184 rfl d_Mod_again_181 ?_
                                refine r_iload_n rfl 185 rfl d_Mod_again_184 ?_
                                refine r_aload_n rfl 186 rfl d_Mod_again_185 ?_
                                refine r_bipush (nI 103) rfl 188 rfl d_Mod_again_186 ?_
                                refine r_iload_n rfl 189 rfl d_Mod_again_188 ?_
                                refine r_iadd 190 rfl d_Mod_again_189 ?_
                                refine r_topi (nI (103 + i5)) (nI_add _ _) ?_
                                refine r_iald 26 rfl (103 + i5) rfl (by omega) (by omega) 191 rfl d_Mod_again_190 ?_
                                refine r_iast (w2 := MW X a ν (u2 (g7 σ (σ 40) i5) 30 (upd (va_cpy (σ 40) (σ 30) 103 0 i5) i5 (σ 40 (103 + i5)))) τ) 19 rfl i5 rfl (by omega) (by omega) rfl 192 rfl d_Mod_again_191 ?_
                                refine r_aload_n rfl 193 rfl d_Mod_again_192 ?_
                                refine r_getf (v := .ref (a 31)) gf_Mod_70 0 rfl rfl 196 rfl d_Mod_again_193 ?_
                                refine r_iload_n rfl 197 rfl d_Mod_again_196 ?_
                                refine r_aload_n rfl 198 rfl d_Mod_again_197 ?_
                                refine r_bipush (nI 113) rfl 200 rfl d_Mod_again_198 ?_
                                refine r_iload_n rfl 201 rfl d_Mod_again_200 ?_
                                refine r_iadd 202 rfl d_Mod_again_201 ?_
                                refine r_topi (nI (113 + i5)) (nI_add _ _) ?_
                                refine r_iald 26 rfl (113 + i5) rfl (by omega) (by omega) 203 rfl d_Mod_again_202 ?_
                                refine r_iast (w2 := MW X a ν (u2 (u2 (g7 σ (σ 40) i5) 30 (upd (va_cpy (σ 40) (σ 30) 103 0 i5) i5 (σ 40 (103 + i5)))) 31 (upd (va_cpy (σ 40) (σ 31) 113 0 i5) i5 (σ 40 (113 + i5)))) τ) 20 rfl i5 rfl (by omega) (by omega) rfl 204 rfl d_Mod_again_203 ?_
                                refine r_iinc (ls2 := [some (.ref (a 0)), some (.ref (a 40)), some (.int (nI (i5 + 1)))]) (nI (i5 + 1)) rfl (nI_1 _) 207 rfl d_Mod_again_204 (by decide) rfl rfl ?_
                                refine r_goto 174 rfl d_Mod_again_207 ?_
                                refine Runs.cast (ih10 (i5 + 1) (by omega) (by omega)) (rfl) rfl (by rw [g7_s])
                          refine Runs.cast (L174_9 _ 0 (by omega) (Nat.lt_succ_self _)) (rfl) rfl (by rw [show i4 = 5 by omega, g7_0])
                        · refine r_aload_n rfl 107 rfl d_Mod_again_106 ?_
                          refine r_getf (v := .ref (a 24)) gf_Mod_52 0 rfl rfl 110 rfl d_Mod_again_107 ?_
                          refine r_iload_n rfl 111 rfl d_Mod_again_110 ?_
                          refine r_aload_n rfl 112 rfl d_Mod_again_111 ?_
                          refine r_bipush (nI 78) rfl 114 rfl d_Mod_again_112 ?_
                          refine r_iload_n rfl 115 rfl d_Mod_again_114 ?_
                          refine r_iadd 116 rfl d_Mod_again_115 ?_
                          refine r_topi (nI (78 + i4)) (nI_add _ _) ?_
                          refine r_iald 26 rfl (78 + i4) rfl (by omega) (by omega) 117 rfl d_Mod_again_116 ?_
                          refine r_iast (w2 := MW X a ν (u2 (g6 σ (σ 40) i4) 24 (upd (va_cpy (σ 40) (σ 24) 78 0 i4) i4 (σ 40 (78 + i4)))) τ) 14 rfl i4 rfl (by omega) (by omega) rfl 118 rfl d_Mod_again_117 ?_
                          refine r_aload_n rfl 119 rfl d_Mod_again_118 ?_
                          refine r_getf (v := .ref (a 25)) gf_Mod_55 0 rfl rfl 122 rfl d_Mod_again_119 ?_
                          refine r_iload_n rfl 123 rfl d_Mod_again_122 ?_
                          refine r_aload_n rfl 124 rfl d_Mod_again_123 ?_
                          refine r_bipush (nI 83) rfl 126 rfl d_Mod_again_124 ?_
                          refine r_iload_n rfl 127 rfl d_Mod_again_126 ?_
                          refine r_iadd 128 rfl d_Mod_again_127 ?_
                          refine r_topi (nI (83 + i4)) (nI_add _ _) ?_
                          refine r_iald 26 rfl (83 + i4) rfl (by omega) (by omega) 129 rfl d_Mod_again_128 ?_
                          refine r_iast (w2 := MW X a ν (u2 (u2 (g6 σ (σ 40) i4) 24 (upd (va_cpy (σ 40) (σ 24) 78 0 i4) i4 (σ 40 (78 + i4)))) 25 (upd (va_cpy (σ 40) (σ 25) 83 0 i4) i4 (σ 40 (83 + i4)))) τ) 15 rfl i4 rfl (by omega) (by omega) rfl 130 rfl d_Mod_again_129 ?_
                          refine r_aload_n rfl 131 rfl d_Mod_again_130 ?_
                          refine r_getf (v := .ref (a 26)) gf_Mod_58 0 rfl rfl 134 rfl d_Mod_again_131 ?_
                          refine r_iload_n rfl 135 rfl d_Mod_again_134 ?_
                          refine r_aload_n rfl 136 rfl d_Mod_again_135 ?_
                          refine r_bipush (nI 88) rfl 138 rfl d_Mod_again_136 ?_
                          refine r_iload_n rfl 139 rfl d_Mod_again_138 ?_
                          refine r_iadd 140 rfl d_Mod_again_139 ?_
                          refine r_topi (nI (88 + i4)) (nI_add _ _) ?_
                          refine r_iald 26 rfl (88 + i4) rfl (by omega) (by omega) 141 rfl d_Mod_again_140 ?_
                          refine r_iast (w2 := MW X a ν (u2 (u2 (u2 (g6 σ (σ 40) i4) 24 (upd (va_cpy (σ 40) (σ 24) 78 0 i4) i4 (σ 40 (78 + i4)))) 25 (upd (va_cpy (σ 40) (σ 25) 83 0 i4) i4 (σ 40 (83 + i4)))) 26 (upd (va_cpy (σ 40) (σ 26) 88 0 i4) i4 (σ 40 (88 + i4)))) τ) 16 rfl i4 rfl (by omega) (by omega) rfl 142 rfl d_Mod_again_141 ?_
                          refine r_aload_n rfl 143 rfl d_Mod_again_142 ?_
                          refine r_getf (v := .ref (a 27)) gf_Mod_61 0 rfl rfl 146 rfl d_Mod_again_143 ?_
                          refine r_iload_n rfl 147 rfl d_Mod_again_146 ?_
                          refine r_aload_n rfl 148 rfl d_Mod_again_147 ?_
                          refine r_bipush (nI 93) rfl 150 rfl d_Mod_again_148 ?_
                          refine r_iload_n rfl 151 rfl d_Mod_again_150 ?_
                          refine r_iadd 152 rfl d_Mod_again_151 ?_
                          refine r_topi (nI (93 + i4)) (nI_add _ _) ?_
                          refine r_iald 26 rfl (93 + i4) rfl (by omega) (by omega) 153 rfl d_Mod_again_152 ?_
                          refine r_iast (w2 := MW X a ν (u2 (u2 (u2 (u2 (g6 σ (σ 40) i4) 24 (upd (va_cpy (σ 40) (σ 24) 78 0 i4) i4 (σ 40 (78 + i4)))) 25 (upd (va_cpy (σ 40) (σ 25) 83 0 i4) i4 (σ 40 (83 + i4)))) 26 (upd (va_cpy (σ 40) (σ 26) 88 0 i4) i4 (σ 40 (88 + i4)))) 27 (upd (va_cpy (σ 40) (σ 27) 93 0 i4) i4 (σ 40 (93 + i4)))) τ) 17 rfl i4 rfl (by omega) (by omega) rfl 154 rfl d_Mod_again_153 ?_
                          refine r_aload_n rfl 155 rfl d_Mod_again_154 ?_
                          refine r_getf (v := .ref (a 28)) gf_Mod_64 0 rfl rfl 158 rfl d_Mod_again_155 ?_
                          refine r_iload_n rfl 159 rfl d_Mod_again_158 ?_
                          refine r_aload_n rfl 160 rfl d_Mod_again_159 ?_
                          refine r_bipush (nI 98) rfl 162 rfl d_Mod_again_160 ?_
                          refine r_iload_n rfl 163 rfl d_Mod_again_162 ?_
                          refine r_iadd 164 rfl d_Mod_again_163 ?_
                          refine r_topi (nI (98 + i4)) (nI_add _ _) ?_
                          refine r_iald 26 rfl (98 + i4) rfl (by omega) (by omega) 165 rfl d_Mod_again_164 ?_
                          refine r_iast (w2 := MW X a ν (u2 (u2 (u2 (u2 (u2 (g6 σ (σ 40) i4) 24 (upd (va_cpy (σ 40) (σ 24) 78 0 i4) i4 (σ 40 (78 + i4)))) 25 (upd (va_cpy (σ 40) (σ 25) 83 0 i4) i4 (σ 40 (83 + i4)))) 26 (upd (va_cpy (σ 40) (σ 26) 88 0 i4) i4 (σ 40 (88 + i4)))) 27 (upd (va_cpy (σ 40) (σ 27) 93 0 i4) i4 (σ 40 (93 + i4)))) 28 (upd (va_cpy (σ 40) (σ 28) 98 0 i4) i4 (σ 40 (98 + i4)))) τ) 18 rfl i4 rfl (by omega) (by omega) rfl 166 rfl d_Mod_again_165 ?_
                          refine r_iinc (ls2 := [some (.ref (a 0)), some (.ref (a 40)), some (.int (nI (i4 + 1)))]) (nI (i4 + 1)) rfl (nI_1 _) 169 rfl d_Mod_again_166 (by decide) rfl rfl ?_
                          refine r_goto 101 rfl d_Mod_again_169 ?_
                          refine Runs.cast (ih8 (i4 + 1) (by omega) (by omega)) (rfl) rfl (by rw [g6_s])
                    refine Runs.cast (L101_7 _ 0 (by omega) (Nat.lt_succ_self _)) (rfl) rfl (by rw [show i3 = 36 by omega, g6_0])
                  · refine r_aload_n rfl 82 rfl d_Mod_again_81 ?_
                    refine r_getf (v := .ref (a 5)) gf_Mod_24 0 rfl rfl 85 rfl d_Mod_again_82 ?_
                    refine r_iload_n rfl 86 rfl d_Mod_again_85 ?_
                    refine r_aload_n rfl 87 rfl d_Mod_again_86 ?_
                    refine r_bipush (nI 42) rfl 89 rfl d_Mod_again_87 ?_
                    refine r_iload_n rfl 90 rfl d_Mod_again_89 ?_
                    refine r_iadd 91 rfl d_Mod_again_90 ?_
                    refine r_topi (nI (42 + i3)) (nI_add _ _) ?_
                    refine r_iald 26 rfl (42 + i3) rfl (by omega) (by omega) 92 rfl d_Mod_again_91 ?_
                    refine r_iast (w2 := MW X a ν (u2 (g5 σ (σ 40) i3) 5 (upd (va_cpy (σ 40) (σ 5) 42 0 i3) i3 (σ 40 (42 + i3)))) τ) 5 rfl i3 rfl (by omega) (by omega) rfl 93 rfl d_Mod_again_92 ?_
                    refine r_iinc (ls2 := [some (.ref (a 0)), some (.ref (a 40)), some (.int (nI (i3 + 1)))]) (nI (i3 + 1)) rfl (nI_1 _) 96 rfl d_Mod_again_93 (by decide) rfl rfl ?_
                    refine r_goto 75 rfl d_Mod_again_96 ?_
                    refine Runs.cast (ih6 (i3 + 1) (by omega) (by omega)) (rfl) rfl (by rw [g5_s])
              refine Runs.cast (L75_5 _ 0 (by omega) (Nat.lt_succ_self _)) (rfl) rfl (by rw [show i2 = 24 by omega, g5_0])
            · refine r_aload_n rfl 56 rfl d_Mod_again_55 ?_
              refine r_getf (v := .ref (a 4)) gf_Mod_21 0 rfl rfl 59 rfl d_Mod_again_56 ?_
              refine r_iload_n rfl 60 rfl d_Mod_again_59 ?_
              refine r_aload_n rfl 61 rfl d_Mod_again_60 ?_
              refine r_bipush (nI 18) rfl 63 rfl d_Mod_again_61 ?_
              refine r_iload_n rfl 64 rfl d_Mod_again_63 ?_
              refine r_iadd 65 rfl d_Mod_again_64 ?_
              refine r_topi (nI (18 + i2)) (nI_add _ _) ?_
              refine r_iald 26 rfl (18 + i2) rfl (by omega) (by omega) 66 rfl d_Mod_again_65 ?_
              refine r_iast (w2 := MW X a ν (u2 (g4 σ (σ 40) i2) 4 (upd (va_cpy (σ 40) (σ 4) 18 0 i2) i2 (σ 40 (18 + i2)))) τ) 4 rfl i2 rfl (by omega) (by omega) rfl 67 rfl d_Mod_again_66 ?_
              refine r_iinc (ls2 := [some (.ref (a 0)), some (.ref (a 40)), some (.int (nI (i2 + 1)))]) (nI (i2 + 1)) rfl (nI_1 _) 70 rfl d_Mod_again_67 (by decide) rfl rfl ?_
              refine r_goto 49 rfl d_Mod_again_70 ?_
              refine Runs.cast (ih4 (i2 + 1) (by omega) (by omega)) (rfl) rfl (by rw [g4_s])
        refine Runs.cast (L49_3 _ 0 (by omega) (Nat.lt_succ_self _)) (rfl) rfl (by rw [show i1 = 6 by omega, g4_0])
      · refine r_aload_n rfl 9 rfl d_Mod_again_8 ?_
        refine r_getf (v := .ref (a 1)) gf_Mod_9 0 rfl rfl 12 rfl d_Mod_again_9 ?_
        refine r_iload_n rfl 13 rfl d_Mod_again_12 ?_
        refine r_aload_n rfl 14 rfl d_Mod_again_13 ?_
        refine r_iload_n rfl 15 rfl d_Mod_again_14 ?_
        refine r_iald 26 rfl i1 rfl (by omega) (by omega) 16 rfl d_Mod_again_15 ?_
        refine r_iast (w2 := MW X a ν (u2 (g3 σ (σ 40) i1) 1 (upd (va_cpy (σ 40) (σ 1) 0 0 i1) i1 (σ 40 i1))) τ) 1 rfl i1 rfl (by omega) (by omega) rfl 17 rfl d_Mod_again_16 ?_
        refine r_aload_n rfl 18 rfl d_Mod_again_17 ?_
        refine r_getf (v := .ref (a 2)) gf_Mod_15 0 rfl rfl 21 rfl d_Mod_again_18 ?_
        refine r_iload_n rfl 22 rfl d_Mod_again_21 ?_
        refine r_aload_n rfl 23 rfl d_Mod_again_22 ?_
        refine r_bipush (nI 6) rfl 25 rfl d_Mod_again_23 ?_
        refine r_iload_n rfl 26 rfl d_Mod_again_25 ?_
        refine r_iadd 27 rfl d_Mod_again_26 ?_
        refine r_topi (nI (6 + i1)) (nI_add _ _) ?_
        refine r_iald 26 rfl (6 + i1) rfl (by omega) (by omega) 28 rfl d_Mod_again_27 ?_
        refine r_iast (w2 := MW X a ν (u2 (u2 (g3 σ (σ 40) i1) 1 (upd (va_cpy (σ 40) (σ 1) 0 0 i1) i1 (σ 40 i1))) 2 (upd (va_cpy (σ 40) (σ 2) 6 0 i1) i1 (σ 40 (6 + i1)))) τ) 2 rfl i1 rfl (by omega) (by omega) rfl 29 rfl d_Mod_again_28 ?_
        refine r_aload_n rfl 30 rfl d_Mod_again_29 ?_
        refine r_getf (v := .ref (a 3)) gf_Mod_18 0 rfl rfl 33 rfl d_Mod_again_30 ?_
        refine r_iload_n rfl 34 rfl d_Mod_again_33 ?_
        refine r_aload_n rfl 35 rfl d_Mod_again_34 ?_
        refine r_bipush (nI 12) rfl 37 rfl d_Mod_again_35 ?_
        refine r_iload_n rfl 38 rfl d_Mod_again_37 ?_
        refine r_iadd 39 rfl d_Mod_again_38 ?_
        refine r_topi (nI (12 + i1)) (nI_add _ _) ?_
        refine r_iald 26 rfl (12 + i1) rfl (by omega) (by omega) 40 rfl d_Mod_again_39 ?_
        refine r_iast (w2 := MW X a ν (u2 (u2 (u2 (g3 σ (σ 40) i1) 1 (upd (va_cpy (σ 40) (σ 1) 0 0 i1) i1 (σ 40 i1))) 2 (upd (va_cpy (σ 40) (σ 2) 6 0 i1) i1 (σ 40 (6 + i1)))) 3 (upd (va_cpy (σ 40) (σ 3) 12 0 i1) i1 (σ 40 (12 + i1)))) τ) 3 rfl i1 rfl (by omega) (by omega) rfl 41 rfl d_Mod_again_40 ?_
        refine r_iinc (ls2 := [some (.ref (a 0)), some (.ref (a 40)), some (.int (nI (i1 + 1)))]) (nI (i1 + 1)) rfl (nI_1 _) 44 rfl d_Mod_again_41 (by decide) rfl rfl ?_
        refine r_goto 2 rfl d_Mod_again_44 ?_
        refine Runs.cast (ih2 (i1 + 1) (by omega) (by omega)) (rfl) rfl (by rw [g3_s])
  refine Runs.cast (L2_1 _ 0 (by omega) (Nat.lt_succ_self _)) (rfl) rfl (by rw [g3_0])
theorem c_JInt_bitCount (X : Xn) (S : Nat) (hS : S < 64) : Does X 1 M_JInt_bitCount [.int (nI S)] ([]) 0 0 (fun (vv : Option Value) (ww : va_W) => vv = some (.int (nI (popc S))) ∧ ww = []) := by
  generalize hQ : (fun (vv : Option Value) (ww : va_W) => vv = some (.int (nI (popc S))) ∧ ww = []) = Q
  refine Does.go rfl (Nat.le_of_ble_eq_true rfl) [some (.int (nI S))] 0 rfl ?_
  refine r_iload_n rfl 1 rfl d_JInt_bitCount_0 ?_
  refine r_iload_n rfl 2 rfl d_JInt_bitCount_1 ?_
  refine r_iconst (nI 1) rfl 3 rfl d_JInt_bitCount_2 ?_
  refine r_iushr 4 rfl d_JInt_bitCount_3 ?_
  refine r_ldcw (v := (1431655765)) (inTB 1211 (by decide +kernel) rfl) 7 rfl d_JInt_bitCount_4 ?_
  refine r_topi (nI 1431655765) rfl ?_
  refine r_iand 8 rfl d_JInt_bitCount_7 ?_
  refine r_isub 9 rfl d_JInt_bitCount_8 ?_
  refine r_istore_n (ls2 := [some (.int ((nI S) - ((((nI S).toUInt32 >>> ((nI 1).toUInt32 &&& Int32.toUInt32 31)).toInt32) &&& (nI 1431655765))))]) 10 rfl d_JInt_bitCount_9 (by decide) rfl rfl ?_
  refine r_iload_n rfl 11 rfl d_JInt_bitCount_10 ?_
  refine r_ldcw (v := (858993459)) (inTB 1212 (by decide +kernel) rfl) 14 rfl d_JInt_bitCount_11 ?_
  refine r_topi (nI 858993459) rfl ?_
  refine r_iand 15 rfl d_JInt_bitCount_14 ?_
  refine r_iload_n rfl 16 rfl d_JInt_bitCount_15 ?_
  refine r_iconst (nI 2) rfl 17 rfl d_JInt_bitCount_16 ?_
  refine r_iushr 18 rfl d_JInt_bitCount_17 ?_
  refine r_ldcw (v := (858993459)) (inTB 1212 (by decide +kernel) rfl) 21 rfl d_JInt_bitCount_18 ?_
  refine r_topi (nI 858993459) rfl ?_
  refine r_iand 22 rfl d_JInt_bitCount_21 ?_
  refine r_iadd 23 rfl d_JInt_bitCount_22 ?_
  refine r_istore_n (ls2 := [some (.int ((((nI S) - ((((nI S).toUInt32 >>> ((nI 1).toUInt32 &&& Int32.toUInt32 31)).toInt32) &&& (nI 1431655765))) &&& (nI 858993459)) + (((((nI S) - ((((nI S).toUInt32 >>> ((nI 1).toUInt32 &&& Int32.toUInt32 31)).toInt32) &&& (nI 1431655765))).toUInt32 >>> ((nI 2).toUInt32 &&& Int32.toUInt32 31)).toInt32) &&& (nI 858993459))))]) 24 rfl d_JInt_bitCount_23 (by decide) rfl rfl ?_
  refine r_iload_n rfl 25 rfl d_JInt_bitCount_24 ?_
  refine r_iload_n rfl 26 rfl d_JInt_bitCount_25 ?_
  refine r_iconst (nI 4) rfl 27 rfl d_JInt_bitCount_26 ?_
  refine r_iushr 28 rfl d_JInt_bitCount_27 ?_
  refine r_iadd 29 rfl d_JInt_bitCount_28 ?_
  refine r_ldcw (v := (252645135)) (inTB 1213 (by decide +kernel) rfl) 32 rfl d_JInt_bitCount_29 ?_
  refine r_topi (nI 252645135) rfl ?_
  refine r_iand 33 rfl d_JInt_bitCount_32 ?_
  refine r_istore_n (ls2 := [some (.int ((((((nI S) - ((((nI S).toUInt32 >>> ((nI 1).toUInt32 &&& Int32.toUInt32 31)).toInt32) &&& (nI 1431655765))) &&& (nI 858993459)) + (((((nI S) - ((((nI S).toUInt32 >>> ((nI 1).toUInt32 &&& Int32.toUInt32 31)).toInt32) &&& (nI 1431655765))).toUInt32 >>> ((nI 2).toUInt32 &&& Int32.toUInt32 31)).toInt32) &&& (nI 858993459))) + ((((((nI S) - ((((nI S).toUInt32 >>> ((nI 1).toUInt32 &&& Int32.toUInt32 31)).toInt32) &&& (nI 1431655765))) &&& (nI 858993459)) + (((((nI S) - ((((nI S).toUInt32 >>> ((nI 1).toUInt32 &&& Int32.toUInt32 31)).toInt32) &&& (nI 1431655765))).toUInt32 >>> ((nI 2).toUInt32 &&& Int32.toUInt32 31)).toInt32) &&& (nI 858993459))).toUInt32 >>> ((nI 4).toUInt32 &&& Int32.toUInt32 31)).toInt32)) &&& (nI 252645135)))]) 34 rfl d_JInt_bitCount_33 (by decide) rfl rfl ?_
  refine r_iload_n rfl 35 rfl d_JInt_bitCount_34 ?_
  refine r_iload_n rfl 36 rfl d_JInt_bitCount_35 ?_
  refine r_bipush (nI 8) rfl 38 rfl d_JInt_bitCount_36 ?_
  refine r_iushr 39 rfl d_JInt_bitCount_38 ?_
  refine r_iadd 40 rfl d_JInt_bitCount_39 ?_
  refine r_istore_n (ls2 := [some (.int (((((((nI S) - ((((nI S).toUInt32 >>> ((nI 1).toUInt32 &&& Int32.toUInt32 31)).toInt32) &&& (nI 1431655765))) &&& (nI 858993459)) + (((((nI S) - ((((nI S).toUInt32 >>> ((nI 1).toUInt32 &&& Int32.toUInt32 31)).toInt32) &&& (nI 1431655765))).toUInt32 >>> ((nI 2).toUInt32 &&& Int32.toUInt32 31)).toInt32) &&& (nI 858993459))) + ((((((nI S) - ((((nI S).toUInt32 >>> ((nI 1).toUInt32 &&& Int32.toUInt32 31)).toInt32) &&& (nI 1431655765))) &&& (nI 858993459)) + (((((nI S) - ((((nI S).toUInt32 >>> ((nI 1).toUInt32 &&& Int32.toUInt32 31)).toInt32) &&& (nI 1431655765))).toUInt32 >>> ((nI 2).toUInt32 &&& Int32.toUInt32 31)).toInt32) &&& (nI 858993459))).toUInt32 >>> ((nI 4).toUInt32 &&& Int32.toUInt32 31)).toInt32)) &&& (nI 252645135)) + ((((((((nI S) - ((((nI S).toUInt32 >>> ((nI 1).toUInt32 &&& Int32.toUInt32 31)).toInt32) &&& (nI 1431655765))) &&& (nI 858993459)) + (((((nI S) - ((((nI S).toUInt32 >>> ((nI 1).toUInt32 &&& Int32.toUInt32 31)).toInt32) &&& (nI 1431655765))).toUInt32 >>> ((nI 2).toUInt32 &&& Int32.toUInt32 31)).toInt32) &&& (nI 858993459))) + ((((((nI S) - ((((nI S).toUInt32 >>> ((nI 1).toUInt32 &&& Int32.toUInt32 31)).toInt32) &&& (nI 1431655765))) &&& (nI 858993459)) + (((((nI S) - ((((nI S).toUInt32 >>> ((nI 1).toUInt32 &&& Int32.toUInt32 31)).toInt32) &&& (nI 1431655765))).toUInt32 >>> ((nI 2).toUInt32 &&& Int32.toUInt32 31)).toInt32) &&& (nI 858993459))).toUInt32 >>> ((nI 4).toUInt32 &&& Int32.toUInt32 31)).toInt32)) &&& (nI 252645135)).toUInt32 >>> ((nI 8).toUInt32 &&& Int32.toUInt32 31)).toInt32)))]) 41 rfl d_JInt_bitCount_40 (by decide) rfl rfl ?_
  refine r_iload_n rfl 42 rfl d_JInt_bitCount_41 ?_
  refine r_iload_n rfl 43 rfl d_JInt_bitCount_42 ?_
  refine r_bipush (nI 16) rfl 45 rfl d_JInt_bitCount_43 ?_
  refine r_iushr 46 rfl d_JInt_bitCount_45 ?_
  refine r_iadd 47 rfl d_JInt_bitCount_46 ?_
  refine r_istore_n (ls2 := [some (.int ((((((((nI S) - ((((nI S).toUInt32 >>> ((nI 1).toUInt32 &&& Int32.toUInt32 31)).toInt32) &&& (nI 1431655765))) &&& (nI 858993459)) + (((((nI S) - ((((nI S).toUInt32 >>> ((nI 1).toUInt32 &&& Int32.toUInt32 31)).toInt32) &&& (nI 1431655765))).toUInt32 >>> ((nI 2).toUInt32 &&& Int32.toUInt32 31)).toInt32) &&& (nI 858993459))) + ((((((nI S) - ((((nI S).toUInt32 >>> ((nI 1).toUInt32 &&& Int32.toUInt32 31)).toInt32) &&& (nI 1431655765))) &&& (nI 858993459)) + (((((nI S) - ((((nI S).toUInt32 >>> ((nI 1).toUInt32 &&& Int32.toUInt32 31)).toInt32) &&& (nI 1431655765))).toUInt32 >>> ((nI 2).toUInt32 &&& Int32.toUInt32 31)).toInt32) &&& (nI 858993459))).toUInt32 >>> ((nI 4).toUInt32 &&& Int32.toUInt32 31)).toInt32)) &&& (nI 252645135)) + ((((((((nI S) - ((((nI S).toUInt32 >>> ((nI 1).toUInt32 &&& Int32.toUInt32 31)).toInt32) &&& (nI 1431655765))) &&& (nI 858993459)) + (((((nI S) - ((((nI S).toUInt32 >>> ((nI 1).toUInt32 &&& Int32.toUInt32 31)).toInt32) &&& (nI 1431655765))).toUInt32 >>> ((nI 2).toUInt32 &&& Int32.toUInt32 31)).toInt32) &&& (nI 858993459))) + ((((((nI S) - ((((nI S).toUInt32 >>> ((nI 1).toUInt32 &&& Int32.toUInt32 31)).toInt32) &&& (nI 1431655765))) &&& (nI 858993459)) + (((((nI S) - ((((nI S).toUInt32 >>> ((nI 1).toUInt32 &&& Int32.toUInt32 31)).toInt32) &&& (nI 1431655765))).toUInt32 >>> ((nI 2).toUInt32 &&& Int32.toUInt32 31)).toInt32) &&& (nI 858993459))).toUInt32 >>> ((nI 4).toUInt32 &&& Int32.toUInt32 31)).toInt32)) &&& (nI 252645135)).toUInt32 >>> ((nI 8).toUInt32 &&& Int32.toUInt32 31)).toInt32)) + (((((((((nI S) - ((((nI S).toUInt32 >>> ((nI 1).toUInt32 &&& Int32.toUInt32 31)).toInt32) &&& (nI 1431655765))) &&& (nI 858993459)) + (((((nI S) - ((((nI S).toUInt32 >>> ((nI 1).toUInt32 &&& Int32.toUInt32 31)).toInt32) &&& (nI 1431655765))).toUInt32 >>> ((nI 2).toUInt32 &&& Int32.toUInt32 31)).toInt32) &&& (nI 858993459))) + ((((((nI S) - ((((nI S).toUInt32 >>> ((nI 1).toUInt32 &&& Int32.toUInt32 31)).toInt32) &&& (nI 1431655765))) &&& (nI 858993459)) + (((((nI S) - ((((nI S).toUInt32 >>> ((nI 1).toUInt32 &&& Int32.toUInt32 31)).toInt32) &&& (nI 1431655765))).toUInt32 >>> ((nI 2).toUInt32 &&& Int32.toUInt32 31)).toInt32) &&& (nI 858993459))).toUInt32 >>> ((nI 4).toUInt32 &&& Int32.toUInt32 31)).toInt32)) &&& (nI 252645135)) + ((((((((nI S) - ((((nI S).toUInt32 >>> ((nI 1).toUInt32 &&& Int32.toUInt32 31)).toInt32) &&& (nI 1431655765))) &&& (nI 858993459)) + (((((nI S) - ((((nI S).toUInt32 >>> ((nI 1).toUInt32 &&& Int32.toUInt32 31)).toInt32) &&& (nI 1431655765))).toUInt32 >>> ((nI 2).toUInt32 &&& Int32.toUInt32 31)).toInt32) &&& (nI 858993459))) + ((((((nI S) - ((((nI S).toUInt32 >>> ((nI 1).toUInt32 &&& Int32.toUInt32 31)).toInt32) &&& (nI 1431655765))) &&& (nI 858993459)) + (((((nI S) - ((((nI S).toUInt32 >>> ((nI 1).toUInt32 &&& Int32.toUInt32 31)).toInt32) &&& (nI 1431655765))).toUInt32 >>> ((nI 2).toUInt32 &&& Int32.toUInt32 31)).toInt32) &&& (nI 858993459))).toUInt32 >>> ((nI 4).toUInt32 &&& Int32.toUInt32 31)).toInt32)) &&& (nI 252645135)).toUInt32 >>> ((nI 8).toUInt32 &&& Int32.toUInt32 31)).toInt32)).toUInt32 >>> ((nI 16).toUInt32 &&& Int32.toUInt32 31)).toInt32)))]) 48 rfl d_JInt_bitCount_47 (by decide) rfl rfl ?_
  refine r_iload_n rfl 49 rfl d_JInt_bitCount_48 ?_
  refine r_bipush (nI 63) rfl 51 rfl d_JInt_bitCount_49 ?_
  refine r_iand 52 rfl d_JInt_bitCount_51 ?_
  exact r_iret rfl (Nat.zero_le _) (Nat.zero_le _) d_JInt_bitCount_52 (by rw [← hQ]; exact ⟨bitCount_some S hS rfl, rfl⟩)
end
section
/-! WHOM ONE MUST RESCUE; PAYMENTS; RINGS -/
theorem u1_self (ν : Nat → Nat) (k : Nat) : u1 ν k (ν k) = ν := by
  funext c; by_cases h : c = k
  · rw [h, u1_s]
  · rw [u1_n h]
theorem u1_same5 (ν : Nat → Nat) : u1 (u1 (u1 (u1 (u1 ν 0 (ν 0)) 6 (ν 6)) 23 (ν 23)) 29 (ν 29)) 32 (ν 32) = ν := by
  rw [u1_self, u1_self, u1_self, u1_self, u1_self]
/-- one's purse is 99999 if its bit is set -/
def rich (pu : Nat → Int32) (S : Nat) : Nat → (Nat → Int32)
  | 0 => pu
  | k + 1 => if S >>> k &&& 1 = 1 then upd (rich pu S k) k (nI 99999) else rich pu S k
theorem rich_out' {pu : Nat → Int32} {S j : Nat} : ∀ k, k ≤ j → rich pu S k j = pu j := by
  intro k
  induction k with
  | zero => intro _; rfl
  | succ k ih =>
    intro h
    rw [rich]
    split
    · rw [pk_un (by omega)]; exact ih (by omega)
    · exact ih (by omega)
theorem rich_out {pu : Nat → Int32} {S j k : Nat} (h : 6 ≤ j) (hk : k ≤ 6 := by first | assumption | omega) : rich pu S k j = pu j := rich_out' k (by omega)
def sv (n : Nat) (pu de : Nat → Int32) (S : Nat) : Bool := decide (fails n (rich pu S n) de 0 = 0)
theorem keep_at {ν : Nat → Nat} {σ : Nat → Nat → Int32} {t : Nat → Int32} : (∀ j, j < 6 → keepF ν σ t j = σ 1 j) ∧ (∀ j, j < 6 → keepF ν σ t (6 + j) = σ 2 j) ∧ (∀ j, j < 6 → keepF ν σ t (12 + j) = σ 3 j) ∧ (∀ j, j < 24 → keepF ν σ t (18 + j) = σ 4 j) ∧ (∀ j, j < 36 → keepF ν σ t (42 + j) = σ 5 j) ∧ (∀ j, j < 5 → keepF ν σ t (78 + j) = σ 24 j ∧ keepF ν σ t (83 + j) = σ 25 j ∧ keepF ν σ t (88 + j) = σ 26 j ∧ keepF ν σ t (93 + j) = σ 27 j ∧ keepF ν σ t (98 + j) = σ 28 j) ∧ (∀ j, j < 10 → keepF ν σ t (103 + j) = σ 30 j ∧ keepF ν σ t (113 + j) = σ 31 j) ∧ (∀ j, j < 8 → keepF ν σ t (123 + j) = σ 33 j ∧ keepF ν σ t (131 + j) = σ 34 j ∧ keepF ν σ t (139 + j) = σ 35 j) ∧ keepF ν σ t 147 = nI (ν 0) ∧ keepF ν σ t 148 = nI (ν 6) ∧ keepF ν σ t 149 = nI (ν 23) ∧ keepF ν σ t 150 = nI (ν 29) ∧ keepF ν σ t 151 = nI (ν 32) ∧ keepF ν σ t 152 = σ 14 0 := by
  have key : ∀ j, j < 147 → keepF ν σ t j = kF σ t 8 j := fun j hj => by
    unfold keepF; rw [pk_un (by omega), pk_un (by omega), pk_un (by omega), pk_un (by omega), pk_un (by omega), pk_un (by omega)]
  have i1 : ∀ {f g : Nat → Int32} {dp n j : Nat}, j < n → va_cpy f g 0 dp n (dp + j) = f j := fun {f g dp n j} h => by
    rw [pk_cpy_in (by omega) (by omega)]; congr 1; omega
  have o1 : ∀ {f g : Nat → Int32} {dp n j : Nat}, j < dp ∨ dp + n ≤ j → va_cpy f g 0 dp n j = g j := fun h => pk_cpy_out h
  have F8 : ∀ j, j < 123 → kF σ t 8 j = kE σ t 10 j := fun j hj => by unfold kF; rw [o1 (by omega), o1 (by omega), o1 (by omega)]
  have E8 : ∀ j, j < 103 → kE σ t 10 j = kD σ t 5 j := fun j hj => by unfold kE; rw [o1 (by omega), o1 (by omega)]
  have D8 : ∀ j, j < 78 → kD σ t 5 j = kC σ t 36 j := fun j hj => by unfold kD; rw [o1 (by omega), o1 (by omega), o1 (by omega), o1 (by omega), o1 (by omega)]
  have C8 : ∀ j, j < 42 → kC σ t 36 j = kB σ t 24 j := fun j hj => by unfold kC; rw [o1 (by omega)]
  have B8 : ∀ j, j < 18 → kB σ t 24 j = kA σ t 6 j := fun j hj => by unfold kB; rw [o1 (by omega)]
  refine ⟨fun j h => ?_, fun j h => ?_, fun j h => ?_, fun j h => ?_, fun j h => ?_, fun j h => ⟨?_, ?_, ?_, ?_, ?_⟩, fun j h => ⟨?_, ?_⟩, fun j h => ⟨?_, ?_, ?_⟩, ?_, ?_, ?_, ?_, ?_, ?_⟩
  · rw [key _ (by omega), F8 _ (by omega), E8 _ (by omega), D8 _ (by omega), C8 _ (by omega), B8 _ (by omega)]; unfold kA; rw [o1 (by omega), o1 (by omega)]; have := i1 (f := σ 1) (g := t) (dp := 0) h; rwa [Nat.zero_add] at this
  · rw [key _ (by omega), F8 _ (by omega), E8 _ (by omega), D8 _ (by omega), C8 _ (by omega), B8 _ (by omega)]; unfold kA; rw [o1 (by omega), i1 h]
  · rw [key _ (by omega), F8 _ (by omega), E8 _ (by omega), D8 _ (by omega), C8 _ (by omega), B8 _ (by omega)]; unfold kA; rw [i1 h]
  · rw [key _ (by omega), F8 _ (by omega), E8 _ (by omega), D8 _ (by omega), C8 _ (by omega)]; unfold kB; rw [i1 h]
  · rw [key _ (by omega), F8 _ (by omega), E8 _ (by omega), D8 _ (by omega)]; unfold kC; rw [i1 h]
  · rw [key _ (by omega), F8 _ (by omega), E8 _ (by omega)]; unfold kD; rw [o1 (by omega), o1 (by omega), o1 (by omega), o1 (by omega), i1 h]
  · rw [key _ (by omega), F8 _ (by omega), E8 _ (by omega)]; unfold kD; rw [o1 (by omega), o1 (by omega), o1 (by omega), i1 h]
  · rw [key _ (by omega), F8 _ (by omega), E8 _ (by omega)]; unfold kD; rw [o1 (by omega), o1 (by omega), i1 h]
  · rw [key _ (by omega), F8 _ (by omega), E8 _ (by omega)]; unfold kD; rw [o1 (by omega), i1 h]
  · rw [key _ (by omega), F8 _ (by omega), E8 _ (by omega)]; unfold kD; rw [i1 h]
  · rw [key _ (by omega), F8 _ (by omega)]; unfold kE; rw [o1 (by omega), i1 h]
  · rw [key _ (by omega), F8 _ (by omega)]; unfold kE; rw [i1 h]
  · rw [key _ (by omega)]; unfold kF; rw [o1 (by omega), o1 (by omega), i1 h]
  · rw [key _ (by omega)]; unfold kF; rw [o1 (by omega), i1 h]
  · rw [key _ (by omega)]; unfold kF; rw [i1 h]
  · unfold keepF; rw [pk_un (by omega), pk_un (by omega), pk_un (by omega), pk_un (by omega), pk_un (by omega), pk_us]
  · unfold keepF; rw [pk_un (by omega), pk_un (by omega), pk_un (by omega), pk_un (by omega), pk_us]
  · unfold keepF; rw [pk_un (by omega), pk_un (by omega), pk_un (by omega), pk_us]
  · unfold keepF; rw [pk_un (by omega), pk_un (by omega), pk_us]
  · unfold keepF; rw [pk_un (by omega), pk_us]
  · unfold keepF; rw [pk_us]
theorem cpy_back {f g h : Nat → Int32} {sp n : Nat} (h1 : ∀ j, j < n → f (sp + j) = h j) (h2 : ∀ j, n ≤ j → g j = h j) : va_cpy f g sp 0 n = h := by
  funext j; simp only [va_cpy]
  split
  · rename_i hj; rw [Nat.sub_zero]; exact h1 j (by omega)
  · exact h2 j (by omega)
/-- what again restores, if but the purses and the debts have changed, and within their rows -/
theorem again_keep {ν : Nat → Nat} {σ σ2 : Nat → Nat → Int32} {t : Nat → Int32} (h0 : ∀ c, c ≠ 40 → c ≠ 3 → c ≠ 5 → σ2 c = σ c) (h40 : σ2 40 = keepF ν σ t) (h3 : ∀ j, 6 ≤ j → σ2 3 j = σ 3 j) (h5 : ∀ j, 36 ≤ j → σ2 5 j = σ 5 j) : againF σ2 (keepF ν σ t) = u2 σ 40 (keepF ν σ t) := by
  obtain ⟨k1, k2, k3, k4, k5, k6, k7, k8, k9, k10, k11, k12, k13, k14⟩ := keep_at (ν := ν) (σ := σ) (t := t)
  have hz : ∀ c, c ≠ 40 → c ≠ 3 → c ≠ 5 → ∀ j, σ2 c j = σ c j := fun c a b d j => by rw [h0 c a b d]
  funext c
  unfold againF g8 g7 g6 g5 g4 g3
  by_cases c14 : c = 14
  · subst c14; rw [u2_s, u2_n (by decide), k14, h0 14 (by decide) (by decide) (by decide), upd_self]
  rw [u2_n c14]
  by_cases c35 : c = 35
  · subst c35; rw [u2_s, u2_n (by decide)]; exact cpy_back (fun j hj => (k8 j hj).2.2) (fun j _ => hz 35 (by decide) (by decide) (by decide) j)
  rw [u2_n c35]
  by_cases c34 : c = 34
  · subst c34; rw [u2_s, u2_n (by decide)]; exact cpy_back (fun j hj => (k8 j hj).2.1) (fun j _ => hz 34 (by decide) (by decide) (by decide) j)
  rw [u2_n c34]
  by_cases c33 : c = 33
  · subst c33; rw [u2_s, u2_n (by decide)]; exact cpy_back (fun j hj => (k8 j hj).1) (fun j _ => hz 33 (by decide) (by decide) (by decide) j)
  rw [u2_n c33]
  by_cases c31 : c = 31
  · subst c31; rw [u2_s, u2_n (by decide)]; exact cpy_back (fun j hj => (k7 j hj).2) (fun j _ => hz 31 (by decide) (by decide) (by decide) j)
  rw [u2_n c31]
  by_cases c30 : c = 30
  · subst c30; rw [u2_s, u2_n (by decide)]; exact cpy_back (fun j hj => (k7 j hj).1) (fun j _ => hz 30 (by decide) (by decide) (by decide) j)
  rw [u2_n c30]
  by_cases c28 : c = 28
  · subst c28; rw [u2_s, u2_n (by decide)]; exact cpy_back (fun j hj => (k6 j hj).2.2.2.2) (fun j _ => hz 28 (by decide) (by decide) (by decide) j)
  rw [u2_n c28]
  by_cases c27 : c = 27
  · subst c27; rw [u2_s, u2_n (by decide)]; exact cpy_back (fun j hj => (k6 j hj).2.2.2.1) (fun j _ => hz 27 (by decide) (by decide) (by decide) j)
  rw [u2_n c27]
  by_cases c26 : c = 26
  · subst c26; rw [u2_s, u2_n (by decide)]; exact cpy_back (fun j hj => (k6 j hj).2.2.1) (fun j _ => hz 26 (by decide) (by decide) (by decide) j)
  rw [u2_n c26]
  by_cases c25 : c = 25
  · subst c25; rw [u2_s, u2_n (by decide)]; exact cpy_back (fun j hj => (k6 j hj).2.1) (fun j _ => hz 25 (by decide) (by decide) (by decide) j)
  rw [u2_n c25]
  by_cases c24 : c = 24
  · subst c24; rw [u2_s, u2_n (by decide)]; exact cpy_back (fun j hj => (k6 j hj).1) (fun j _ => hz 24 (by decide) (by decide) (by decide) j)
  rw [u2_n c24]
  by_cases c5 : c = 5
  · subst c5; rw [u2_s, u2_n (by decide)]; exact cpy_back k5 h5
  rw [u2_n c5]
  by_cases c4 : c = 4
  · subst c4; rw [u2_s, u2_n (by decide)]; exact cpy_back k4 (fun j _ => hz 4 (by decide) (by decide) (by decide) j)
  rw [u2_n c4]
  by_cases c3 : c = 3
  · subst c3; rw [u2_s, u2_n (by decide)]; exact cpy_back k3 h3
  rw [u2_n c3]
  by_cases c2 : c = 2
  · subst c2; rw [u2_s, u2_n (by decide)]; exact cpy_back k2 (fun j _ => hz 2 (by decide) (by decide) (by decide) j)
  rw [u2_n c2]
  by_cases c1 : c = 1
  · subst c1; rw [u2_s, u2_n (by decide)]; exact cpy_back (fun j hj => by rw [Nat.zero_add]; exact k1 j hj) (fun j _ => hz 1 (by decide) (by decide) (by decide) j)
  rw [u2_n c1]
  by_cases c40 : c = 40
  · subst c40; rw [u2_s]; exact h40
  · rw [u2_n c40, h0 c c40 c3 c5]
end
section
def M_Mod_saves : XM := (⟨"HandshakeBindsModel", "saves", "(I)Z"⟩, prog_11_method_39_code, 3, (some .boolean))
theorem d_Mod_saves_0 : decode M_Mod_saves.2.1 0 = .ok (.aload_n 0, 1) := by decide +kernel
theorem d_Mod_saves_1 : decode M_Mod_saves.2.1 1 = .ok (.aload_n 0, 1) := by decide +kernel
theorem d_Mod_saves_2 : decode M_Mod_saves.2.1 2 = .ok (.getfield 88, 3) := by decide +kernel
theorem gf_Mod_88 : GF "HandshakeBindsModel" 88 9 40 := ⟨_, _, _, rfl, by decide, i_Mod, inTB 890 (by decide +kernel) rfl⟩
theorem d_Mod_saves_5 : decode M_Mod_saves.2.1 5 = .ok (.invokevirtual 254, 3) := by decide +kernel
theorem ln_Mod_254 : Cond.methodLink "HandshakeBindsModel" 254 M_Mod_keep.1 ∈ TB := inTB 1218 (by decide +kernel) rfl
theorem lk_Mod_keep : LVt M_Mod_keep 1 := ⟨⟨inTB 72 (by decide +kernel) rfl, inTB 1221 (by decide +kernel) rfl, ⟨by decide, by decide, by decide +kernel⟩, by decide⟩, inTB 1220 (by decide +kernel) rfl, inTB 46 (by decide +kernel) rfl⟩
theorem d_Mod_saves_8 : decode M_Mod_saves.2.1 8 = .ok (.iconst 0, 1) := by decide +kernel
theorem d_Mod_saves_9 : decode M_Mod_saves.2.1 9 = .ok (.istore_n 2, 1) := by decide +kernel
theorem d_Mod_saves_10 : decode M_Mod_saves.2.1 10 = .ok (.iload_n 2, 1) := by decide +kernel
theorem d_Mod_saves_11 : decode M_Mod_saves.2.1 11 = .ok (.aload_n 0, 1) := by decide +kernel
theorem d_Mod_saves_12 : decode M_Mod_saves.2.1 12 = .ok (.getfield 111, 3) := by decide +kernel
theorem d_Mod_saves_15 : decode M_Mod_saves.2.1 15 = .ok (.if_icmp .ge 27, 3) := by decide +kernel
theorem d_Mod_saves_42 : decode M_Mod_saves.2.1 42 = .ok (.aload_n 0, 1) := by decide +kernel
theorem d_Mod_saves_43 : decode M_Mod_saves.2.1 43 = .ok (.iconst 0, 1) := by decide +kernel
theorem d_Mod_saves_44 : decode M_Mod_saves.2.1 44 = .ok (.invokevirtual 134, 3) := by decide +kernel
theorem d_Mod_saves_47 : decode M_Mod_saves.2.1 47 = .ok (.ifCond .ne 7, 3) := by decide +kernel
theorem d_Mod_saves_54 : decode M_Mod_saves.2.1 54 = .ok (.iconst 0, 1) := by decide +kernel
theorem d_Mod_saves_55 : decode M_Mod_saves.2.1 55 = .ok (.istore_n 2, 1) := by decide +kernel
theorem d_Mod_saves_56 : decode M_Mod_saves.2.1 56 = .ok (.aload_n 0, 1) := by decide +kernel
theorem d_Mod_saves_57 : decode M_Mod_saves.2.1 57 = .ok (.aload_n 0, 1) := by decide +kernel
theorem d_Mod_saves_58 : decode M_Mod_saves.2.1 58 = .ok (.getfield 88, 3) := by decide +kernel
theorem d_Mod_saves_61 : decode M_Mod_saves.2.1 61 = .ok (.invokevirtual 259, 3) := by decide +kernel
theorem ln_Mod_259 : Cond.methodLink "HandshakeBindsModel" 259 M_Mod_again.1 ∈ TB := inTB 1223 (by decide +kernel) rfl
theorem lk_Mod_again : LVt M_Mod_again 1 := ⟨⟨inTB 72 (by decide +kernel) rfl, inTB 1226 (by decide +kernel) rfl, ⟨by decide, by decide, by decide +kernel⟩, by decide⟩, inTB 1225 (by decide +kernel) rfl, inTB 47 (by decide +kernel) rfl⟩
theorem d_Mod_saves_64 : decode M_Mod_saves.2.1 64 = .ok (.iload_n 2, 1) := by decide +kernel
theorem d_Mod_saves_65 : decode M_Mod_saves.2.1 65 = .ok (.ireturn, 1) := by decide +kernel
theorem d_Mod_saves_50 : decode M_Mod_saves.2.1 50 = .ok (.iconst 1, 1) := by decide +kernel
theorem d_Mod_saves_51 : decode M_Mod_saves.2.1 51 = .ok (.goto 4, 3) := by decide +kernel
theorem d_Mod_saves_18 : decode M_Mod_saves.2.1 18 = .ok (.iload_n 1, 1) := by decide +kernel
theorem d_Mod_saves_19 : decode M_Mod_saves.2.1 19 = .ok (.iload_n 2, 1) := by decide +kernel
theorem d_Mod_saves_20 : decode M_Mod_saves.2.1 20 = .ok (.ishr, 1) := by decide +kernel
theorem d_Mod_saves_21 : decode M_Mod_saves.2.1 21 = .ok (.iconst 1, 1) := by decide +kernel
theorem d_Mod_saves_22 : decode M_Mod_saves.2.1 22 = .ok (.iand, 1) := by decide +kernel
theorem d_Mod_saves_23 : decode M_Mod_saves.2.1 23 = .ok (.iconst 1, 1) := by decide +kernel
theorem d_Mod_saves_24 : decode M_Mod_saves.2.1 24 = .ok (.if_icmp .ne 12, 3) := by decide +kernel
theorem d_Mod_saves_36 : decode M_Mod_saves.2.1 36 = .ok (.iinc 2 1, 3) := by decide +kernel
theorem d_Mod_saves_39 : decode M_Mod_saves.2.1 39 = .ok (.goto (-29), 3) := by decide +kernel
theorem d_Mod_saves_27 : decode M_Mod_saves.2.1 27 = .ok (.aload_n 0, 1) := by decide +kernel
theorem d_Mod_saves_28 : decode M_Mod_saves.2.1 28 = .ok (.getfield 18, 3) := by decide +kernel
theorem d_Mod_saves_31 : decode M_Mod_saves.2.1 31 = .ok (.iload_n 2, 1) := by decide +kernel
theorem d_Mod_saves_32 : decode M_Mod_saves.2.1 32 = .ok (.ldc_w 258, 3) := by decide +kernel
theorem d_Mod_saves_35 : decode M_Mod_saves.2.1 35 = .ok (.iastore, 1) := by decide +kernel
theorem c_Mod_saves (X : Xn) (a ν : Nat → Nat) (σ : Nat → Nat → Int32) (τ : Nat → Int64) (hn6 : ν 0 ≤ 6) (S : Nat) (hS : S < 64) : Does X 3 M_Mod_saves [.ref (a 0), .int (nI S)] (MW X a ν σ τ) 0 0 (fun (vv : Option Value) (ww : va_W) => vv = some (.int (bI (sv (ν 0) (σ 3) (σ 5) S))) ∧ ww = MW X a ν (u2 σ 40 (keepF ν σ (σ 40))) τ) := by
  generalize hQ : (fun (vv : Option Value) (ww : va_W) => vv = some (.int (bI (sv (ν 0) (σ 3) (σ 5) S))) ∧ ww = MW X a ν (u2 σ 40 (keepF ν σ (σ 40))) τ) = Q
  refine Does.go rfl (Nat.le_of_ble_eq_true rfl) [some (.ref (a 0)), some (.int (nI S)), none] 1 rfl ?_
  refine r_aload_n rfl 1 rfl d_Mod_saves_0 ?_
  refine r_aload_n rfl 2 rfl d_Mod_saves_1 ?_
  refine r_getf (v := .ref (a 40)) gf_Mod_88 0 rfl rfl 5 rfl d_Mod_saves_2 ?_
  refine r_callVA1 (st2 := []) (w2 := MW X a ν (u2 σ 40 (keepF ν σ (σ 40))) τ) lk_Mod_keep ln_Mod_254 (c_Mod_keep40 X a ν σ τ) (by decide) rfl rfl (Nat.le_of_ble_eq_true rfl) (Nat.le_of_ble_eq_true rfl) (Nat.le_of_ble_eq_true rfl) 0 rfl rfl rfl rfl 8 rfl d_Mod_saves_5 ?_
  refine r_iconst (nI 0) rfl 9 rfl d_Mod_saves_8 ?_
  refine r_istore_n (ls2 := [some (.ref (a 0)), some (.int (nI S)), some (.int (nI 0))]) 10 rfl d_Mod_saves_9 (by decide) rfl rfl ?_
  have L10_1 : ∀ (f : Nat) (k : Nat), (k ≤ ν 0) → ν 0 - k < f → Runs X 3 M_Mod_saves 0 0 Q 10 [some (.ref (a 0)), some (.int (nI S)), some (.int (nI k))] [] 0 0 (MW X a ν (u2 (u2 σ 40 (keepF ν σ (σ 40))) 3 (rich (σ 3) S k)) τ) := by
    intro f
    induction f with
    | zero => intro k hk hmu; exact absurd hmu (Nat.not_lt_zero _)
    | succ f ih2 =>
      intro k hk hmu
      refine r_iload_n rfl 11 rfl d_Mod_saves_10 ?_
      refine r_aload_n rfl 12 rfl d_Mod_saves_11 ?_
      refine r_getf (v := .int (nI (ν 0))) gf_Mod_111 0 rfl rfl 15 rfl d_Mod_saves_12 ?_
      refine r_icmp_geN k (ν 0) (by omega) (by omega) 18 42 rfl rfl d_Mod_saves_15 (fun h15 => ?_) (fun h15 => ?_)
      · refine r_aload_n rfl 43 rfl d_Mod_saves_42 ?_
        refine r_iconst (nI 0) rfl 44 rfl d_Mod_saves_43 ?_
        refine r_callVA1 (st2 := [.int (nI (fails (ν 0) (rich (σ 3) S k) (σ 5) 0))]) (w2 := MW X a ν (u2 (u2 σ 40 (keepF ν σ (σ 40))) 3 (rich (σ 3) S k)) τ) lk_Mod_fails ln_Mod_134 (c_Mod_fails X a ν (u2 (u2 σ 40 (keepF ν σ (σ 40))) 3 (rich (σ 3) S k)) τ hn6 0 (by first | omega | assumption)) (by decide) rfl rfl (Nat.le_of_ble_eq_true rfl) (Nat.le_of_ble_eq_true rfl) (Nat.le_of_ble_eq_true rfl) 0 rfl rfl rfl rfl 47 rfl d_Mod_saves_44 ?_
        have hfl : fails (ν 0) (rich (σ 3) S k) (σ 5) 0 < 64 := fails_lt hn6 (by decide)
        refine r_if_neN (fails (ν 0) (rich (σ 3) S k) (σ 5) 0) (Nat.lt_trans hfl (by decide)) 50 54 rfl rfl d_Mod_saves_47 (fun h47 => ?_) (fun h47 => ?_)
        · have hsv : sv (ν 0) (σ 3) (σ 5) S = false := by simp only [sv, decide_eq_false_iff_not]; rw [show k = ν 0 by omega] at h47; exact h47
          refine r_iconst (nI 0) rfl 55 rfl d_Mod_saves_54 ?_
          refine r_istore_n (ls2 := [some (.ref (a 0)), some (.int (nI S)), some (.int (nI 0))]) 56 rfl d_Mod_saves_55 (by decide) rfl rfl ?_
          refine r_aload_n rfl 57 rfl d_Mod_saves_56 ?_
          refine r_aload_n rfl 58 rfl d_Mod_saves_57 ?_
          refine r_getf (v := .ref (a 40)) gf_Mod_88 0 rfl rfl 61 rfl d_Mod_saves_58 ?_
          refine r_callVA1 (st2 := []) (w2 := MW X a (u1 (u1 (u1 (u1 (u1 ν 0 (ν 0)) 6 (ν 6)) 23 (ν 23)) 29 (ν 29)) 32 (ν 32)) (againF (u2 (u2 σ 40 (keepF ν σ (σ 40))) 3 (rich (σ 3) S k)) (keepF ν σ (σ 40))) τ) lk_Mod_again ln_Mod_259 (c_Mod_again40 X a ν (u2 (u2 σ 40 (keepF ν σ (σ 40))) 3 (rich (σ 3) S k)) τ (ν 0) (ν 6) (ν 23) (ν 29) (ν 32) rfl rfl rfl rfl rfl) (by decide) rfl rfl (Nat.le_of_ble_eq_true rfl) (Nat.le_of_ble_eq_true rfl) (Nat.le_of_ble_eq_true rfl) 0 rfl rfl rfl rfl 64 rfl d_Mod_saves_61 ?_
          refine Runs.cast (w' := MW X a ν (u2 σ 40 (keepF ν σ (σ 40))) τ) ?_ rfl rfl (by rw [u1_same5, again_keep (σ := σ) (σ2 := u2 (u2 σ 40 (keepF ν σ (σ 40))) 3 (rich (σ 3) S k)) (t := σ 40) (by intro c h1 h2 h3; rw [u2_n h2, u2_n h1]) (by rw [u2_n (by decide), u2_s]) (fun j hj => rich_out (pu := σ 3) (S := S) (k := k) hj (by omega)) (fun j hj => rfl)])
          refine r_iload_n rfl 65 rfl d_Mod_saves_64 ?_
          exact r_zret rfl (rfl) (Nat.zero_le _) (Nat.zero_le _) d_Mod_saves_65 (by rw [← hQ]; exact ⟨by rw [hsv]; rfl, rfl⟩)
        · have hsv : sv (ν 0) (σ 3) (σ 5) S = true := by simp only [sv, decide_eq_true_eq]; rw [show k = ν 0 by omega] at h47; exact h47
          refine r_iconst (nI 1) rfl 51 rfl d_Mod_saves_50 ?_
          refine r_goto 55 rfl d_Mod_saves_51 ?_
          refine r_istore_n (ls2 := [some (.ref (a 0)), some (.int (nI S)), some (.int (nI 1))]) 56 rfl d_Mod_saves_55 (by decide) rfl rfl ?_
          refine r_aload_n rfl 57 rfl d_Mod_saves_56 ?_
          refine r_aload_n rfl 58 rfl d_Mod_saves_57 ?_
          refine r_getf (v := .ref (a 40)) gf_Mod_88 0 rfl rfl 61 rfl d_Mod_saves_58 ?_
          refine r_callVA1 (st2 := []) (w2 := MW X a (u1 (u1 (u1 (u1 (u1 ν 0 (ν 0)) 6 (ν 6)) 23 (ν 23)) 29 (ν 29)) 32 (ν 32)) (againF (u2 (u2 σ 40 (keepF ν σ (σ 40))) 3 (rich (σ 3) S k)) (keepF ν σ (σ 40))) τ) lk_Mod_again ln_Mod_259 (c_Mod_again40 X a ν (u2 (u2 σ 40 (keepF ν σ (σ 40))) 3 (rich (σ 3) S k)) τ (ν 0) (ν 6) (ν 23) (ν 29) (ν 32) rfl rfl rfl rfl rfl) (by decide) rfl rfl (Nat.le_of_ble_eq_true rfl) (Nat.le_of_ble_eq_true rfl) (Nat.le_of_ble_eq_true rfl) 0 rfl rfl rfl rfl 64 rfl d_Mod_saves_61 ?_
          refine Runs.cast (w' := MW X a ν (u2 σ 40 (keepF ν σ (σ 40))) τ) ?_ rfl rfl (by rw [u1_same5, again_keep (σ := σ) (σ2 := u2 (u2 σ 40 (keepF ν σ (σ 40))) 3 (rich (σ 3) S k)) (t := σ 40) (by intro c h1 h2 h3; rw [u2_n h2, u2_n h1]) (by rw [u2_n (by decide), u2_s]) (fun j hj => rich_out (pu := σ 3) (S := S) (k := k) hj (by omega)) (fun j hj => rfl)])
          refine r_iload_n rfl 65 rfl d_Mod_saves_64 ?_
          exact r_zret rfl (rfl) (Nat.zero_le _) (Nat.zero_le _) d_Mod_saves_65 (by rw [← hQ]; exact ⟨by rw [hsv]; rfl, rfl⟩)
      · refine r_iload_n rfl 19 rfl d_Mod_saves_18 ?_
        refine r_iload_n rfl 20 rfl d_Mod_saves_19 ?_
        refine r_ishr 21 rfl d_Mod_saves_20 ?_
        refine r_topi (nI (S >>> k)) (nI_shr (by omega) (by omega)) ?_
        refine r_iconst (nI 1) rfl 22 rfl d_Mod_saves_21 ?_
        refine r_iand 23 rfl d_Mod_saves_22 ?_
        refine r_topi (nI ((S >>> k) &&& 1)) (nx_and _ _) ?_
        refine r_iconst (nI 1) rfl 24 rfl d_Mod_saves_23 ?_
        refine r_icmp_neN ((S >>> k) &&& 1) 1 (b_lt31 _) (by omega) 27 36 rfl rfl d_Mod_saves_24 (fun h24 => ?_) (fun h24 => ?_)
        · refine r_iinc (ls2 := [some (.ref (a 0)), some (.int (nI S)), some (.int (nI (k + 1)))]) (nI (k + 1)) rfl (nI_1 _) 39 rfl d_Mod_saves_36 (by decide) rfl rfl ?_
          refine r_goto 10 rfl d_Mod_saves_39 ?_
          refine Runs.cast (ih2 (k + 1) (by omega) (by omega)) (rfl) rfl (by rw [rich, if_neg h24])
        · refine r_aload_n rfl 28 rfl d_Mod_saves_27 ?_
          refine r_getf (v := .ref (a 3)) gf_Mod_18 0 rfl rfl 31 rfl d_Mod_saves_28 ?_
          refine r_iload_n rfl 32 rfl d_Mod_saves_31 ?_
          refine r_ldcw (v := (99999)) (inTB 1222 (by decide +kernel) rfl) 35 rfl d_Mod_saves_32 ?_
          refine r_topi (nI 99999) rfl ?_
          refine r_iast (w2 := MW X a ν (u2 (u2 (u2 σ 40 (keepF ν σ (σ 40))) 3 (rich (σ 3) S k)) 3 (upd (rich (σ 3) S k) k (nI 99999))) τ) 3 rfl k rfl (by omega) (by omega) rfl 36 rfl d_Mod_saves_35 ?_
          refine r_iinc (ls2 := [some (.ref (a 0)), some (.int (nI S)), some (.int (nI (k + 1)))]) (nI (k + 1)) rfl (nI_1 _) 39 rfl d_Mod_saves_36 (by decide) rfl rfl ?_
          refine r_goto 10 rfl d_Mod_saves_39 ?_
          refine Runs.cast (ih2 (k + 1) (by omega) (by omega)) (rfl) rfl (by rw [u2_u2, rich, if_pos h24])
  refine Runs.cast (L10_1 _ 0 (by omega) (Nat.lt_succ_self _)) (rfl) rfl (by rw [rich]; exact congrArg (fun z => MW X a ν z τ) (u2_self (σ := u2 σ 40 (keepF ν σ (σ 40))) (k := 3)).symm)
end
section
/-! RESCUE, PAYMENTS, RINGS: what the loops compute -/
def resc (n : Nat) (pu de : Nat → Int32) : Nat → Option Nat
  | 0 => none
  | k + 1 => match resc n pu de k with
    | none => if sv n pu de k = true then some k else none
    | some f => if popc k < popc f ∧ sv n pu de k = true then some k else some f
def rs : Option Nat → Int32
  | none => -1
  | some f => nI f
theorem rs_none {o : Option Nat} (hf : ∀ z : Nat, o = some z → z < 64) (h : rs o = -1) : o = none := by
  cases o with
  | none => rfl
  | some f =>
    have h1 := congrArg Int32.toInt (show nI f = -1 from h)
    rw [nI_toInt (by have := hf f rfl; omega)] at h1
    have h2 : (-1 : Int32).toInt = -1 := by decide
    omega
theorem rs_some {o : Option Nat} (h : ¬ rs o = -1) : ∃ f, o = some f := by
  cases o with
  | none => exact absurd rfl h
  | some f => exact ⟨f, rfl⟩
theorem popc_le (S : Nat) : popc S ≤ 6 := by
  unfold popc
  have := b_lt (S >>> 0); have := b_lt (S >>> 1); have := b_lt (S >>> 2); have := b_lt (S >>> 3); have := b_lt (S >>> 4); have := b_lt (S >>> 5)
  omega
theorem shl_pos (k : Nat) : 1 ≤ 1 <<< k := by rw [Nat.shiftLeft_eq, Nat.one_mul]; exact Nat.one_le_two_pow
def lowb (S : Nat) : Nat := S &&& (64 - S)
theorem lowb_all : ∀ S : Fin 64, nI S.val &&& -(nI S.val) = nI (lowb S.val) := by decide +kernel
theorem lowb_eq (S : Nat) (h : S < 64) : nI S &&& -(nI S) = nI (lowb S) := lowb_all ⟨S, h⟩
theorem and_not_all : ∀ A : Fin 64, ∀ B : Fin 64, nI A.val &&& (nI B.val ^^^ (-1)) = nI (A.val &&& (63 ^^^ B.val)) := by decide +kernel
theorem and_not (A B : Nat) (h : A < 64) (h2 : B < 64) : nI A &&& (nI B ^^^ (-1)) = nI (A &&& (63 ^^^ B)) := and_not_all ⟨A, h⟩ ⟨B, h2⟩
theorem and_lt64 {a b : Nat} (h : a < 64) : a &&& b < 64 := Nat.lt_of_le_of_lt Nat.and_le_left h
theorem and_lt31 {a b : Nat} (h : a < 64) : a &&& b < 2 ^ 31 := Nat.lt_of_le_of_lt Nat.and_le_left (by omega)
def pb (n : Nat) (de : Nat → Int32) (old : Nat → Int32) (S : Nat) : Nat → Int32
  | 0 => -99
  | o + 1 => if (o + 1) &&& (63 ^^^ S) = 0 ∧ ¬ (o + 1) &&& lowb S = 0 ∧ bsum n de (o + 1) n = 0 then (if pb n de old S o < upd old S (pb n de old S o) (S &&& (63 ^^^ (o + 1))) + nI 1 then upd old S (pb n de old S o) (S &&& (63 ^^^ (o + 1))) + nI 1 else pb n de old S o) else pb n de old S o
def ptab (n : Nat) (de t : Nat → Int32) : Nat → (Nat → Int32)
  | 0 => upd t 0 (nI 0)
  | s + 1 => upd (ptab n de t s) (s + 1) (pb n de (ptab n de t s) (s + 1) (s + 1))
def foldN (g : Nat → Int32 → Int32) (b : Int32) : Nat → Int32
  | 0 => b
  | k + 1 => g k (foldN g b k)
def rbase (de : Nat → Int32) (w p m : Nat) : Int32 := if 1 < m ∧ 0 < de (6 * p + w) then nI m else nI 0
def rf (n : Nat) (de : Nat → Int32) (w : Nat) : Nat → Nat → Nat → Nat → Int32
  | 0, p, _, m => rbase de w p m
  | f + 1, p, S, m => foldN (fun k acc => if S >>> (w + 1 + k) &&& 1 = 0 ∧ 0 < de (6 * p + (w + 1 + k)) then (if acc < rf n de w f (w + 1 + k) (S ||| 1 <<< (w + 1 + k)) (m + 1) then rf n de w f (w + 1 + k) (S ||| 1 <<< (w + 1 + k)) (m + 1) else acc) else acc) (rbase de w p m) (n - (w + 1))
def rstep (n : Nat) (de : Nat → Int32) (w f p S m : Nat) (k : Nat) (acc : Int32) : Int32 := if S >>> (w + 1 + k) &&& 1 = 0 ∧ 0 < de (6 * p + (w + 1 + k)) then (if acc < rf n de w f (w + 1 + k) (S ||| 1 <<< (w + 1 + k)) (m + 1) then rf n de w f (w + 1 + k) (S ||| 1 <<< (w + 1 + k)) (m + 1) else acc) else acc
theorem rstep_t {n : Nat} {de : Nat → Int32} {w f p S m k : Nat} {acc : Int32} (h1 : S >>> (w + 1 + k) &&& 1 = 0) (h2 : ¬ de (6 * p + (w + 1 + k)) ≤ 0) : rstep n de w f p S m k acc = (if acc < rf n de w f (w + 1 + k) (S ||| 1 <<< (w + 1 + k)) (m + 1) then rf n de w f (w + 1 + k) (S ||| 1 <<< (w + 1 + k)) (m + 1) else acc) := if_pos ⟨h1, Int32.not_le.mp h2⟩
theorem rstep_b {n : Nat} {de : Nat → Int32} {w f p S m k : Nat} {acc : Int32} (h1 : ¬ S >>> (w + 1 + k) &&& 1 = 0) : rstep n de w f p S m k acc = acc := if_neg (fun z => h1 z.1)
theorem rstep_d {n : Nat} {de : Nat → Int32} {w f p S m k : Nat} {acc : Int32} (h2 : de (6 * p + (w + 1 + k)) ≤ 0) : rstep n de w f p S m k acc = acc := if_neg (fun z => absurd z.2 (Int32.not_lt.mpr h2))
theorem rf_end {n : Nat} {de : Nat → Int32} {w f p S m k : Nat} (h : n ≤ w + 1 + k) (hk : w + 1 + k ≤ n ∨ k = 0) : foldN (rstep n de w f p S m) (rbase de w p m) k = rf n de w (f + 1) p S m := by
  have : k = n - (w + 1) := by omega
  rw [this]; rfl
theorem pb_t {n : Nat} {de old : Nat → Int32} {S o : Nat} (h1 : (o + 1) &&& (63 ^^^ S) = 0) (h2 : ¬ (o + 1) &&& lowb S = 0) (h3 : bsum n de (o + 1) n = 0) : pb n de old S (o + 1) = (if pb n de old S o < upd old S (pb n de old S o) (S &&& (63 ^^^ (o + 1))) + nI 1 then upd old S (pb n de old S o) (S &&& (63 ^^^ (o + 1))) + nI 1 else pb n de old S o) := by
  rw [pb, if_pos ⟨h1, h2, h3⟩]
end
section
def M_Mod_rescue : XM := (⟨"HandshakeBindsModel", "rescue", "()I"⟩, prog_11_method_40_code, 3, (some .int))
theorem d_Mod_rescue_0 : decode M_Mod_rescue.2.1 0 = .ok (.iconst (-1), 1) := by decide +kernel
theorem d_Mod_rescue_1 : decode M_Mod_rescue.2.1 1 = .ok (.istore_n 1, 1) := by decide +kernel
theorem d_Mod_rescue_2 : decode M_Mod_rescue.2.1 2 = .ok (.iconst 0, 1) := by decide +kernel
theorem d_Mod_rescue_3 : decode M_Mod_rescue.2.1 3 = .ok (.istore_n 2, 1) := by decide +kernel
theorem d_Mod_rescue_4 : decode M_Mod_rescue.2.1 4 = .ok (.iload_n 2, 1) := by decide +kernel
theorem d_Mod_rescue_5 : decode M_Mod_rescue.2.1 5 = .ok (.iconst 1, 1) := by decide +kernel
theorem d_Mod_rescue_6 : decode M_Mod_rescue.2.1 6 = .ok (.aload_n 0, 1) := by decide +kernel
theorem d_Mod_rescue_7 : decode M_Mod_rescue.2.1 7 = .ok (.getfield 111, 3) := by decide +kernel
theorem d_Mod_rescue_10 : decode M_Mod_rescue.2.1 10 = .ok (.ishl, 1) := by decide +kernel
theorem d_Mod_rescue_11 : decode M_Mod_rescue.2.1 11 = .ok (.if_icmp .ge 35, 3) := by decide +kernel
theorem d_Mod_rescue_46 : decode M_Mod_rescue.2.1 46 = .ok (.iload_n 1, 1) := by decide +kernel
theorem d_Mod_rescue_47 : decode M_Mod_rescue.2.1 47 = .ok (.ireturn, 1) := by decide +kernel
theorem d_Mod_rescue_14 : decode M_Mod_rescue.2.1 14 = .ok (.iload_n 1, 1) := by decide +kernel
theorem d_Mod_rescue_15 : decode M_Mod_rescue.2.1 15 = .ok (.iconst (-1), 1) := by decide +kernel
theorem d_Mod_rescue_16 : decode M_Mod_rescue.2.1 16 = .ok (.if_icmp .eq 14, 3) := by decide +kernel
theorem d_Mod_rescue_30 : decode M_Mod_rescue.2.1 30 = .ok (.aload_n 0, 1) := by decide +kernel
theorem d_Mod_rescue_31 : decode M_Mod_rescue.2.1 31 = .ok (.iload_n 2, 1) := by decide +kernel
theorem d_Mod_rescue_32 : decode M_Mod_rescue.2.1 32 = .ok (.invokevirtual 267, 3) := by decide +kernel
theorem ln_Mod_267 : Cond.methodLink "HandshakeBindsModel" 267 M_Mod_saves.1 ∈ TB := inTB 1214 (by decide +kernel) rfl
theorem lk_Mod_saves : LVt M_Mod_saves 1 := ⟨⟨inTB 72 (by decide +kernel) rfl, inTB 1217 (by decide +kernel) rfl, ⟨by decide, by decide, by decide +kernel⟩, by decide⟩, inTB 1216 (by decide +kernel) rfl, inTB 45 (by decide +kernel) rfl⟩
theorem d_Mod_rescue_35 : decode M_Mod_rescue.2.1 35 = .ok (.ifCond .eq 5, 3) := by decide +kernel
theorem d_Mod_rescue_40 : decode M_Mod_rescue.2.1 40 = .ok (.iinc 2 1, 3) := by decide +kernel
theorem d_Mod_rescue_43 : decode M_Mod_rescue.2.1 43 = .ok (.goto (-39), 3) := by decide +kernel
theorem d_Mod_rescue_38 : decode M_Mod_rescue.2.1 38 = .ok (.iload_n 2, 1) := by decide +kernel
theorem d_Mod_rescue_39 : decode M_Mod_rescue.2.1 39 = .ok (.istore_n 1, 1) := by decide +kernel
theorem d_Mod_rescue_19 : decode M_Mod_rescue.2.1 19 = .ok (.iload_n 2, 1) := by decide +kernel
theorem d_Mod_rescue_20 : decode M_Mod_rescue.2.1 20 = .ok (.invokestatic 262, 3) := by decide +kernel
theorem ln_Mod_262 : Cond.methodLink "HandshakeBindsModel" 262 M_JInt_bitCount.1 ∈ TB := inTB 1208 (by decide +kernel) rfl
theorem lk_JInt_bitCount : LSt M_JInt_bitCount 1 := ⟨⟨inTB 78 (by decide +kernel) rfl, inTB 1210 (by decide +kernel) rfl, ⟨by decide, by decide, by decide +kernel⟩, by decide⟩, inTB 1209 (by decide +kernel) rfl⟩
theorem d_Mod_rescue_23 : decode M_Mod_rescue.2.1 23 = .ok (.iload_n 1, 1) := by decide +kernel
theorem d_Mod_rescue_24 : decode M_Mod_rescue.2.1 24 = .ok (.invokestatic 262, 3) := by decide +kernel
theorem d_Mod_rescue_27 : decode M_Mod_rescue.2.1 27 = .ok (.if_icmp .ge 13, 3) := by decide +kernel
def M_Mod_balances : XM := (⟨"HandshakeBindsModel", "balances", "(I)I"⟩, prog_11_method_41_code, 4, (some .int))
theorem d_Mod_balances_0 : decode M_Mod_balances.2.1 0 = .ok (.iconst 0, 1) := by decide +kernel
theorem d_Mod_balances_1 : decode M_Mod_balances.2.1 1 = .ok (.istore_n 2, 1) := by decide +kernel
theorem d_Mod_balances_2 : decode M_Mod_balances.2.1 2 = .ok (.iconst 0, 1) := by decide +kernel
theorem d_Mod_balances_3 : decode M_Mod_balances.2.1 3 = .ok (.istore_n 3, 1) := by decide +kernel
theorem d_Mod_balances_4 : decode M_Mod_balances.2.1 4 = .ok (.iload_n 3, 1) := by decide +kernel
theorem d_Mod_balances_5 : decode M_Mod_balances.2.1 5 = .ok (.aload_n 0, 1) := by decide +kernel
theorem d_Mod_balances_6 : decode M_Mod_balances.2.1 6 = .ok (.getfield 111, 3) := by decide +kernel
theorem d_Mod_balances_9 : decode M_Mod_balances.2.1 9 = .ok (.if_icmp .ge 26, 3) := by decide +kernel
theorem d_Mod_balances_35 : decode M_Mod_balances.2.1 35 = .ok (.iload_n 2, 1) := by decide +kernel
theorem d_Mod_balances_36 : decode M_Mod_balances.2.1 36 = .ok (.ireturn, 1) := by decide +kernel
theorem d_Mod_balances_12 : decode M_Mod_balances.2.1 12 = .ok (.iload_n 1, 1) := by decide +kernel
theorem d_Mod_balances_13 : decode M_Mod_balances.2.1 13 = .ok (.iload_n 3, 1) := by decide +kernel
theorem d_Mod_balances_14 : decode M_Mod_balances.2.1 14 = .ok (.ishr, 1) := by decide +kernel
theorem d_Mod_balances_15 : decode M_Mod_balances.2.1 15 = .ok (.iconst 1, 1) := by decide +kernel
theorem d_Mod_balances_16 : decode M_Mod_balances.2.1 16 = .ok (.iand, 1) := by decide +kernel
theorem d_Mod_balances_17 : decode M_Mod_balances.2.1 17 = .ok (.iconst 1, 1) := by decide +kernel
theorem d_Mod_balances_18 : decode M_Mod_balances.2.1 18 = .ok (.if_icmp .ne 11, 3) := by decide +kernel
theorem d_Mod_balances_29 : decode M_Mod_balances.2.1 29 = .ok (.iinc 3 1, 3) := by decide +kernel
theorem d_Mod_balances_32 : decode M_Mod_balances.2.1 32 = .ok (.goto (-28), 3) := by decide +kernel
theorem d_Mod_balances_21 : decode M_Mod_balances.2.1 21 = .ok (.iload_n 2, 1) := by decide +kernel
theorem d_Mod_balances_22 : decode M_Mod_balances.2.1 22 = .ok (.aload_n 0, 1) := by decide +kernel
theorem d_Mod_balances_23 : decode M_Mod_balances.2.1 23 = .ok (.iload_n 3, 1) := by decide +kernel
theorem d_Mod_balances_24 : decode M_Mod_balances.2.1 24 = .ok (.invokevirtual 131, 3) := by decide +kernel
theorem ln_Mod_131 : Cond.methodLink "HandshakeBindsModel" 131 M_Mod_balance.1 ∈ TB := inTB 1014 (by decide +kernel) rfl
theorem lk_Mod_balance : LVt M_Mod_balance 1 := ⟨⟨inTB 72 (by decide +kernel) rfl, inTB 1017 (by decide +kernel) rfl, ⟨by decide, by decide, by decide +kernel⟩, by decide⟩, inTB 1016 (by decide +kernel) rfl, inTB 23 (by decide +kernel) rfl⟩
theorem d_Mod_balances_27 : decode M_Mod_balances.2.1 27 = .ok (.iadd, 1) := by decide +kernel
theorem d_Mod_balances_28 : decode M_Mod_balances.2.1 28 = .ok (.istore_n 2, 1) := by decide +kernel
def M_Mod_payments : XM := (⟨"HandshakeBindsModel", "payments", "()I"⟩, prog_11_method_42_code, 4, (some .int))
theorem d_Mod_payments_0 : decode M_Mod_payments.2.1 0 = .ok (.aload_n 0, 1) := by decide +kernel
theorem d_Mod_payments_1 : decode M_Mod_payments.2.1 1 = .ok (.getfield 91, 3) := by decide +kernel
theorem gf_Mod_91 : GF "HandshakeBindsModel" 91 9 41 := ⟨_, _, _, rfl, by decide, i_Mod, inTB 891 (by decide +kernel) rfl⟩
theorem d_Mod_payments_4 : decode M_Mod_payments.2.1 4 = .ok (.iconst 0, 1) := by decide +kernel
theorem d_Mod_payments_5 : decode M_Mod_payments.2.1 5 = .ok (.iconst 0, 1) := by decide +kernel
theorem d_Mod_payments_6 : decode M_Mod_payments.2.1 6 = .ok (.iastore, 1) := by decide +kernel
theorem d_Mod_payments_7 : decode M_Mod_payments.2.1 7 = .ok (.iconst 1, 1) := by decide +kernel
theorem d_Mod_payments_8 : decode M_Mod_payments.2.1 8 = .ok (.istore_n 1, 1) := by decide +kernel
theorem d_Mod_payments_9 : decode M_Mod_payments.2.1 9 = .ok (.iload_n 1, 1) := by decide +kernel
theorem d_Mod_payments_10 : decode M_Mod_payments.2.1 10 = .ok (.iconst 1, 1) := by decide +kernel
theorem d_Mod_payments_11 : decode M_Mod_payments.2.1 11 = .ok (.aload_n 0, 1) := by decide +kernel
theorem d_Mod_payments_12 : decode M_Mod_payments.2.1 12 = .ok (.getfield 111, 3) := by decide +kernel
theorem d_Mod_payments_15 : decode M_Mod_payments.2.1 15 = .ok (.ishl, 1) := by decide +kernel
theorem d_Mod_payments_16 : decode M_Mod_payments.2.1 16 = .ok (.if_icmp .ge 87, 3) := by decide +kernel
theorem d_Mod_payments_103 : decode M_Mod_payments.2.1 103 = .ok (.aload_n 0, 1) := by decide +kernel
theorem d_Mod_payments_104 : decode M_Mod_payments.2.1 104 = .ok (.getfield 111, 3) := by decide +kernel
theorem d_Mod_payments_107 : decode M_Mod_payments.2.1 107 = .ok (.aload_n 0, 1) := by decide +kernel
theorem d_Mod_payments_108 : decode M_Mod_payments.2.1 108 = .ok (.getfield 91, 3) := by decide +kernel
theorem d_Mod_payments_111 : decode M_Mod_payments.2.1 111 = .ok (.iconst 1, 1) := by decide +kernel
theorem d_Mod_payments_112 : decode M_Mod_payments.2.1 112 = .ok (.aload_n 0, 1) := by decide +kernel
theorem d_Mod_payments_113 : decode M_Mod_payments.2.1 113 = .ok (.getfield 111, 3) := by decide +kernel
theorem d_Mod_payments_116 : decode M_Mod_payments.2.1 116 = .ok (.ishl, 1) := by decide +kernel
theorem d_Mod_payments_117 : decode M_Mod_payments.2.1 117 = .ok (.iconst 1, 1) := by decide +kernel
theorem d_Mod_payments_118 : decode M_Mod_payments.2.1 118 = .ok (.isub, 1) := by decide +kernel
theorem d_Mod_payments_119 : decode M_Mod_payments.2.1 119 = .ok (.iaload, 1) := by decide +kernel
theorem d_Mod_payments_120 : decode M_Mod_payments.2.1 120 = .ok (.isub, 1) := by decide +kernel
theorem d_Mod_payments_121 : decode M_Mod_payments.2.1 121 = .ok (.ireturn, 1) := by decide +kernel
theorem d_Mod_payments_19 : decode M_Mod_payments.2.1 19 = .ok (.iload_n 1, 1) := by decide +kernel
theorem d_Mod_payments_20 : decode M_Mod_payments.2.1 20 = .ok (.iload_n 1, 1) := by decide +kernel
theorem d_Mod_payments_21 : decode M_Mod_payments.2.1 21 = .ok (.ineg, 1) := by decide +kernel
theorem d_Mod_payments_22 : decode M_Mod_payments.2.1 22 = .ok (.iand, 1) := by decide +kernel
theorem d_Mod_payments_23 : decode M_Mod_payments.2.1 23 = .ok (.istore_n 2, 1) := by decide +kernel
theorem d_Mod_payments_24 : decode M_Mod_payments.2.1 24 = .ok (.aload_n 0, 1) := by decide +kernel
theorem d_Mod_payments_25 : decode M_Mod_payments.2.1 25 = .ok (.getfield 91, 3) := by decide +kernel
theorem d_Mod_payments_28 : decode M_Mod_payments.2.1 28 = .ok (.iload_n 1, 1) := by decide +kernel
theorem d_Mod_payments_29 : decode M_Mod_payments.2.1 29 = .ok (.bipush (-99), 2) := by decide +kernel
theorem d_Mod_payments_31 : decode M_Mod_payments.2.1 31 = .ok (.iastore, 1) := by decide +kernel
theorem d_Mod_payments_32 : decode M_Mod_payments.2.1 32 = .ok (.iconst 1, 1) := by decide +kernel
theorem d_Mod_payments_33 : decode M_Mod_payments.2.1 33 = .ok (.istore_n 3, 1) := by decide +kernel
theorem d_Mod_payments_34 : decode M_Mod_payments.2.1 34 = .ok (.iload_n 3, 1) := by decide +kernel
theorem d_Mod_payments_35 : decode M_Mod_payments.2.1 35 = .ok (.iload_n 1, 1) := by decide +kernel
theorem d_Mod_payments_36 : decode M_Mod_payments.2.1 36 = .ok (.if_icmp .gt 61, 3) := by decide +kernel
theorem d_Mod_payments_97 : decode M_Mod_payments.2.1 97 = .ok (.iinc 1 1, 3) := by decide +kernel
theorem d_Mod_payments_100 : decode M_Mod_payments.2.1 100 = .ok (.goto (-91), 3) := by decide +kernel
theorem d_Mod_payments_39 : decode M_Mod_payments.2.1 39 = .ok (.iload_n 3, 1) := by decide +kernel
theorem d_Mod_payments_40 : decode M_Mod_payments.2.1 40 = .ok (.iload_n 1, 1) := by decide +kernel
theorem d_Mod_payments_41 : decode M_Mod_payments.2.1 41 = .ok (.iconst (-1), 1) := by decide +kernel
theorem d_Mod_payments_42 : decode M_Mod_payments.2.1 42 = .ok (.ixor, 1) := by decide +kernel
theorem d_Mod_payments_43 : decode M_Mod_payments.2.1 43 = .ok (.iand, 1) := by decide +kernel
theorem d_Mod_payments_44 : decode M_Mod_payments.2.1 44 = .ok (.ifCond .ne 47, 3) := by decide +kernel
theorem d_Mod_payments_91 : decode M_Mod_payments.2.1 91 = .ok (.iinc 3 1, 3) := by decide +kernel
theorem d_Mod_payments_94 : decode M_Mod_payments.2.1 94 = .ok (.goto (-60), 3) := by decide +kernel
theorem d_Mod_payments_47 : decode M_Mod_payments.2.1 47 = .ok (.iload_n 3, 1) := by decide +kernel
theorem d_Mod_payments_48 : decode M_Mod_payments.2.1 48 = .ok (.iload_n 2, 1) := by decide +kernel
theorem d_Mod_payments_49 : decode M_Mod_payments.2.1 49 = .ok (.iand, 1) := by decide +kernel
theorem d_Mod_payments_50 : decode M_Mod_payments.2.1 50 = .ok (.ifCond .eq 41, 3) := by decide +kernel
theorem d_Mod_payments_53 : decode M_Mod_payments.2.1 53 = .ok (.aload_n 0, 1) := by decide +kernel
theorem d_Mod_payments_54 : decode M_Mod_payments.2.1 54 = .ok (.iload_n 3, 1) := by decide +kernel
theorem d_Mod_payments_55 : decode M_Mod_payments.2.1 55 = .ok (.invokevirtual 270, 3) := by decide +kernel
theorem ln_Mod_270 : Cond.methodLink "HandshakeBindsModel" 270 M_Mod_balances.1 ∈ TB := inTB 1231 (by decide +kernel) rfl
theorem lk_Mod_balances : LVt M_Mod_balances 1 := ⟨⟨inTB 72 (by decide +kernel) rfl, inTB 1234 (by decide +kernel) rfl, ⟨by decide, by decide, by decide +kernel⟩, by decide⟩, inTB 1233 (by decide +kernel) rfl, inTB 49 (by decide +kernel) rfl⟩
theorem d_Mod_payments_58 : decode M_Mod_payments.2.1 58 = .ok (.ifCond .eq 6, 3) := by decide +kernel
theorem d_Mod_payments_64 : decode M_Mod_payments.2.1 64 = .ok (.aload_n 0, 1) := by decide +kernel
theorem d_Mod_payments_65 : decode M_Mod_payments.2.1 65 = .ok (.getfield 91, 3) := by decide +kernel
theorem d_Mod_payments_68 : decode M_Mod_payments.2.1 68 = .ok (.iload_n 1, 1) := by decide +kernel
theorem d_Mod_payments_69 : decode M_Mod_payments.2.1 69 = .ok (.aload_n 0, 1) := by decide +kernel
theorem d_Mod_payments_70 : decode M_Mod_payments.2.1 70 = .ok (.getfield 91, 3) := by decide +kernel
theorem d_Mod_payments_73 : decode M_Mod_payments.2.1 73 = .ok (.iload_n 1, 1) := by decide +kernel
theorem d_Mod_payments_74 : decode M_Mod_payments.2.1 74 = .ok (.iaload, 1) := by decide +kernel
theorem d_Mod_payments_75 : decode M_Mod_payments.2.1 75 = .ok (.aload_n 0, 1) := by decide +kernel
theorem d_Mod_payments_76 : decode M_Mod_payments.2.1 76 = .ok (.getfield 91, 3) := by decide +kernel
theorem d_Mod_payments_79 : decode M_Mod_payments.2.1 79 = .ok (.iload_n 1, 1) := by decide +kernel
theorem d_Mod_payments_80 : decode M_Mod_payments.2.1 80 = .ok (.iload_n 3, 1) := by decide +kernel
theorem d_Mod_payments_81 : decode M_Mod_payments.2.1 81 = .ok (.iconst (-1), 1) := by decide +kernel
theorem d_Mod_payments_82 : decode M_Mod_payments.2.1 82 = .ok (.ixor, 1) := by decide +kernel
theorem d_Mod_payments_83 : decode M_Mod_payments.2.1 83 = .ok (.iand, 1) := by decide +kernel
theorem d_Mod_payments_84 : decode M_Mod_payments.2.1 84 = .ok (.iaload, 1) := by decide +kernel
theorem d_Mod_payments_85 : decode M_Mod_payments.2.1 85 = .ok (.iconst 1, 1) := by decide +kernel
theorem d_Mod_payments_86 : decode M_Mod_payments.2.1 86 = .ok (.iadd, 1) := by decide +kernel
theorem d_Mod_payments_87 : decode M_Mod_payments.2.1 87 = .ok (.invokestatic 273, 3) := by decide +kernel
theorem d_Mod_payments_90 : decode M_Mod_payments.2.1 90 = .ok (.iastore, 1) := by decide +kernel
theorem d_Mod_payments_61 : decode M_Mod_payments.2.1 61 = .ok (.goto 30, 3) := by decide +kernel
def M_Mod_ringFrom : XM := (⟨"HandshakeBindsModel", "ringFrom", "(IIII)I"⟩, prog_11_method_43_code, 7, (some .int))
theorem d_Mod_ringFrom_26 : decode M_Mod_ringFrom.2.1 26 = .ok (.istore 5, 2) := by decide +kernel
theorem d_Mod_ringFrom_28 : decode M_Mod_ringFrom.2.1 28 = .ok (.iload_n 1, 1) := by decide +kernel
theorem d_Mod_ringFrom_29 : decode M_Mod_ringFrom.2.1 29 = .ok (.iconst 1, 1) := by decide +kernel
theorem d_Mod_ringFrom_30 : decode M_Mod_ringFrom.2.1 30 = .ok (.iadd, 1) := by decide +kernel
theorem d_Mod_ringFrom_31 : decode M_Mod_ringFrom.2.1 31 = .ok (.istore 6, 2) := by decide +kernel
theorem d_Mod_ringFrom_33 : decode M_Mod_ringFrom.2.1 33 = .ok (.iload 6, 2) := by decide +kernel
theorem d_Mod_ringFrom_35 : decode M_Mod_ringFrom.2.1 35 = .ok (.aload_n 0, 1) := by decide +kernel
theorem d_Mod_ringFrom_36 : decode M_Mod_ringFrom.2.1 36 = .ok (.getfield 111, 3) := by decide +kernel
theorem d_Mod_ringFrom_39 : decode M_Mod_ringFrom.2.1 39 = .ok (.if_icmp .ge 57, 3) := by decide +kernel
theorem d_Mod_ringFrom_96 : decode M_Mod_ringFrom.2.1 96 = .ok (.iload 5, 2) := by decide +kernel
theorem d_Mod_ringFrom_98 : decode M_Mod_ringFrom.2.1 98 = .ok (.ireturn, 1) := by decide +kernel
theorem d_Mod_ringFrom_42 : decode M_Mod_ringFrom.2.1 42 = .ok (.iload_n 3, 1) := by decide +kernel
theorem d_Mod_ringFrom_43 : decode M_Mod_ringFrom.2.1 43 = .ok (.iload 6, 2) := by decide +kernel
theorem d_Mod_ringFrom_45 : decode M_Mod_ringFrom.2.1 45 = .ok (.ishr, 1) := by decide +kernel
theorem d_Mod_ringFrom_46 : decode M_Mod_ringFrom.2.1 46 = .ok (.iconst 1, 1) := by decide +kernel
theorem d_Mod_ringFrom_47 : decode M_Mod_ringFrom.2.1 47 = .ok (.iand, 1) := by decide +kernel
theorem d_Mod_ringFrom_48 : decode M_Mod_ringFrom.2.1 48 = .ok (.ifCond .ne 42, 3) := by decide +kernel
theorem d_Mod_ringFrom_90 : decode M_Mod_ringFrom.2.1 90 = .ok (.iinc 6 1, 3) := by decide +kernel
theorem d_Mod_ringFrom_93 : decode M_Mod_ringFrom.2.1 93 = .ok (.goto (-60), 3) := by decide +kernel
theorem d_Mod_ringFrom_51 : decode M_Mod_ringFrom.2.1 51 = .ok (.aload_n 0, 1) := by decide +kernel
theorem d_Mod_ringFrom_52 : decode M_Mod_ringFrom.2.1 52 = .ok (.getfield 24, 3) := by decide +kernel
theorem d_Mod_ringFrom_55 : decode M_Mod_ringFrom.2.1 55 = .ok (.bipush 6, 2) := by decide +kernel
theorem d_Mod_ringFrom_57 : decode M_Mod_ringFrom.2.1 57 = .ok (.iload_n 2, 1) := by decide +kernel
theorem d_Mod_ringFrom_58 : decode M_Mod_ringFrom.2.1 58 = .ok (.imul, 1) := by decide +kernel
theorem d_Mod_ringFrom_59 : decode M_Mod_ringFrom.2.1 59 = .ok (.iload 6, 2) := by decide +kernel
theorem d_Mod_ringFrom_61 : decode M_Mod_ringFrom.2.1 61 = .ok (.iadd, 1) := by decide +kernel
theorem d_Mod_ringFrom_62 : decode M_Mod_ringFrom.2.1 62 = .ok (.iaload, 1) := by decide +kernel
theorem d_Mod_ringFrom_63 : decode M_Mod_ringFrom.2.1 63 = .ok (.ifCond .le 27, 3) := by decide +kernel
theorem d_Mod_ringFrom_66 : decode M_Mod_ringFrom.2.1 66 = .ok (.iload 5, 2) := by decide +kernel
theorem d_Mod_ringFrom_68 : decode M_Mod_ringFrom.2.1 68 = .ok (.aload_n 0, 1) := by decide +kernel
theorem d_Mod_ringFrom_69 : decode M_Mod_ringFrom.2.1 69 = .ok (.iload_n 1, 1) := by decide +kernel
theorem d_Mod_ringFrom_70 : decode M_Mod_ringFrom.2.1 70 = .ok (.iload 6, 2) := by decide +kernel
theorem d_Mod_ringFrom_72 : decode M_Mod_ringFrom.2.1 72 = .ok (.iload_n 3, 1) := by decide +kernel
theorem d_Mod_ringFrom_73 : decode M_Mod_ringFrom.2.1 73 = .ok (.iconst 1, 1) := by decide +kernel
theorem d_Mod_ringFrom_74 : decode M_Mod_ringFrom.2.1 74 = .ok (.iload 6, 2) := by decide +kernel
theorem d_Mod_ringFrom_76 : decode M_Mod_ringFrom.2.1 76 = .ok (.ishl, 1) := by decide +kernel
theorem d_Mod_ringFrom_77 : decode M_Mod_ringFrom.2.1 77 = .ok (.ior, 1) := by decide +kernel
theorem d_Mod_ringFrom_78 : decode M_Mod_ringFrom.2.1 78 = .ok (.iload 4, 2) := by decide +kernel
theorem d_Mod_ringFrom_80 : decode M_Mod_ringFrom.2.1 80 = .ok (.iconst 1, 1) := by decide +kernel
theorem d_Mod_ringFrom_81 : decode M_Mod_ringFrom.2.1 81 = .ok (.iadd, 1) := by decide +kernel
theorem d_Mod_ringFrom_82 : decode M_Mod_ringFrom.2.1 82 = .ok (.invokevirtual 276, 3) := by decide +kernel
theorem ln_Mod_276 : Cond.methodLink "HandshakeBindsModel" 276 M_Mod_ringFrom.1 ∈ TB := inTB 1240 (by decide +kernel) rfl
theorem lk_Mod_ringFrom : LVt M_Mod_ringFrom 4 := ⟨⟨inTB 72 (by decide +kernel) rfl, inTB 1243 (by decide +kernel) rfl, ⟨by decide, by decide, by decide +kernel⟩, by decide⟩, inTB 1242 (by decide +kernel) rfl, inTB 51 (by decide +kernel) rfl⟩
theorem d_Mod_ringFrom_85 : decode M_Mod_ringFrom.2.1 85 = .ok (.invokestatic 273, 3) := by decide +kernel
theorem d_Mod_ringFrom_88 : decode M_Mod_ringFrom.2.1 88 = .ok (.istore 5, 2) := by decide +kernel
theorem d_Mod_ringFrom_0 : decode M_Mod_ringFrom.2.1 0 = .ok (.iload 4, 2) := by decide +kernel
theorem d_Mod_ringFrom_2 : decode M_Mod_ringFrom.2.1 2 = .ok (.iconst 1, 1) := by decide +kernel
theorem d_Mod_ringFrom_3 : decode M_Mod_ringFrom.2.1 3 = .ok (.if_icmp .le 22, 3) := by decide +kernel
theorem d_Mod_ringFrom_25 : decode M_Mod_ringFrom.2.1 25 = .ok (.iconst 0, 1) := by decide +kernel
theorem d_Mod_ringFrom_6 : decode M_Mod_ringFrom.2.1 6 = .ok (.aload_n 0, 1) := by decide +kernel
theorem d_Mod_ringFrom_7 : decode M_Mod_ringFrom.2.1 7 = .ok (.getfield 24, 3) := by decide +kernel
theorem d_Mod_ringFrom_10 : decode M_Mod_ringFrom.2.1 10 = .ok (.bipush 6, 2) := by decide +kernel
theorem d_Mod_ringFrom_12 : decode M_Mod_ringFrom.2.1 12 = .ok (.iload_n 2, 1) := by decide +kernel
theorem d_Mod_ringFrom_13 : decode M_Mod_ringFrom.2.1 13 = .ok (.imul, 1) := by decide +kernel
theorem d_Mod_ringFrom_14 : decode M_Mod_ringFrom.2.1 14 = .ok (.iload_n 1, 1) := by decide +kernel
theorem d_Mod_ringFrom_15 : decode M_Mod_ringFrom.2.1 15 = .ok (.iadd, 1) := by decide +kernel
theorem d_Mod_ringFrom_16 : decode M_Mod_ringFrom.2.1 16 = .ok (.iaload, 1) := by decide +kernel
theorem d_Mod_ringFrom_17 : decode M_Mod_ringFrom.2.1 17 = .ok (.ifCond .le 8, 3) := by decide +kernel
theorem d_Mod_ringFrom_20 : decode M_Mod_ringFrom.2.1 20 = .ok (.iload 4, 2) := by decide +kernel
theorem d_Mod_ringFrom_22 : decode M_Mod_ringFrom.2.1 22 = .ok (.goto 4, 3) := by decide +kernel
theorem c_Mod_rescue (X : Xn) (a ν : Nat → Nat) (σ : Nat → Nat → Int32) (τ : Nat → Int64) (hn6 : ν 0 ≤ 6) : Does X 4 M_Mod_rescue [.ref (a 0)] (MW X a ν σ τ) 0 0 (fun (vv : Option Value) (ww : va_W) => ∃ t : Nat → Int32, vv = some (.int (rs (resc (ν 0) (σ 3) (σ 5) (1 <<< ν 0)))) ∧ ww = MW X a ν (u2 σ 40 t) τ) := by
  generalize hQ : (fun (vv : Option Value) (ww : va_W) => ∃ t : Nat → Int32, vv = some (.int (rs (resc (ν 0) (σ 3) (σ 5) (1 <<< ν 0)))) ∧ ww = MW X a ν (u2 σ 40 t) τ) = Q
  refine Does.go rfl (Nat.le_of_ble_eq_true rfl) [some (.ref (a 0)), none, none] 2 rfl ?_
  have hK : 1 <<< ν 0 ≤ 64 := shl_lt hn6
  refine r_iconst ((-1)) rfl 1 rfl d_Mod_rescue_0 ?_
  refine r_istore_n (ls2 := [some (.ref (a 0)), some (.int (-1)), none]) 2 rfl d_Mod_rescue_1 (by decide) rfl rfl ?_
  refine r_iconst (nI 0) rfl 3 rfl d_Mod_rescue_2 ?_
  refine r_istore_n (ls2 := [some (.ref (a 0)), some (.int (-1)), some (.int (nI 0))]) 4 rfl d_Mod_rescue_3 (by decide) rfl rfl ?_
  have L4_1 : ∀ (f : Nat) (k : Nat) (o : Option Nat) (t : Nat → Int32), (k ≤ 1 <<< ν 0) → (o = resc (ν 0) (σ 3) (σ 5) k) → (∀ z : Nat, o = some z → z < 64) → 1 <<< ν 0 - k < f → Runs X 4 M_Mod_rescue 0 0 Q 4 [some (.ref (a 0)), some (.int (rs o)), some (.int (nI k))] [] 0 0 (MW X a ν (u2 σ 40 (t)) τ) := by
    intro f
    induction f with
    | zero => intro k o t hk ho hf hmu; exact absurd hmu (Nat.not_lt_zero _)
    | succ f ih2 =>
      intro k o t hk ho hf hmu
      refine r_iload_n rfl 5 rfl d_Mod_rescue_4 ?_
      refine r_iconst (nI 1) rfl 6 rfl d_Mod_rescue_5 ?_
      refine r_aload_n rfl 7 rfl d_Mod_rescue_6 ?_
      refine r_getf (v := .int (nI (ν 0))) gf_Mod_111 0 rfl rfl 10 rfl d_Mod_rescue_7 ?_
      refine r_ishl 11 rfl d_Mod_rescue_10 ?_
      refine r_topi (nI (1 <<< (ν 0))) (nI_shl (by omega) (one_shl (by omega))) ?_
      refine r_icmp_geN k (1 <<< (ν 0)) (by omega) (shl_lt31 (by omega)) 14 46 rfl rfl d_Mod_rescue_11 (fun h11 => ?_) (fun h11 => ?_)
      · refine r_iload_n rfl 47 rfl d_Mod_rescue_46 ?_
        exact r_iret rfl (Nat.zero_le _) (Nat.zero_le _) d_Mod_rescue_47 (by rw [← hQ]; exact ⟨t, by rw [ho, show k = 1 <<< ν 0 by omega], rfl⟩)
      · refine r_iload_n rfl 15 rfl d_Mod_rescue_14 ?_
        refine r_iconst ((-1)) rfl 16 rfl d_Mod_rescue_15 ?_
        refine r_icmp_eq 19 30 rfl rfl d_Mod_rescue_16 (fun h16 => ?_) (fun h16 => ?_)
        · obtain rfl := rs_none hf h16
          refine r_aload_n rfl 31 rfl d_Mod_rescue_30 ?_
          refine r_iload_n rfl 32 rfl d_Mod_rescue_31 ?_
          refine r_callVA1 (st2 := [.int (bI (sv (ν 0) (σ 3) (σ 5) k))]) (w2 := MW X a ν (u2 (u2 σ 40 (t)) 40 (keepF ν (u2 σ 40 (t)) (t))) τ) lk_Mod_saves ln_Mod_267 (c_Mod_saves X a ν (u2 σ 40 (t)) τ hn6 k (by first | assumption | omega)) (by first | decide | omega) rfl rfl (Nat.le_of_ble_eq_true rfl) (Nat.le_of_ble_eq_true rfl) (Nat.le_of_ble_eq_true rfl) 0 rfl rfl rfl rfl 35 rfl d_Mod_rescue_32 ?_
          refine r_if_eqB 38 40 rfl rfl d_Mod_rescue_35 (fun h35 => ?_) (fun h35 => ?_)
          · refine r_iinc (ls2 := [some (.ref (a 0)), some (.int (rs none)), some (.int (nI (k + 1)))]) (nI (k + 1)) rfl (nI_1 _) 43 rfl d_Mod_rescue_40 (by decide) rfl rfl ?_
            refine r_goto 4 rfl d_Mod_rescue_43 ?_
            refine Runs.cast (ih2 (k + 1) none (keepF ν (u2 σ 40 (t)) (t)) (by omega) (by simp [resc, ← ho, h35]) (fun z hz => by cases hz) (by omega)) (rfl) rfl (by rw [u2_u2]; try rfl)
          · refine r_iload_n rfl 39 rfl d_Mod_rescue_38 ?_
            refine r_istore_n (ls2 := [some (.ref (a 0)), some (.int (nI k)), some (.int (nI k))]) 40 rfl d_Mod_rescue_39 (by decide) rfl rfl ?_
            refine r_iinc (ls2 := [some (.ref (a 0)), some (.int (nI k)), some (.int (nI (k + 1)))]) (nI (k + 1)) rfl (nI_1 _) 43 rfl d_Mod_rescue_40 (by decide) rfl rfl ?_
            refine r_goto 4 rfl d_Mod_rescue_43 ?_
            refine Runs.cast (ih2 (k + 1) (some k) (keepF ν (u2 σ 40 (t)) (t)) (by omega) (by simp [resc, ← ho, h35]) (fun z hz => by cases hz; omega) (by omega)) (rfl) rfl (by rw [u2_u2]; try rfl)
        · obtain ⟨f0, rfl⟩ := rs_some h16
          have hf0 := hf f0 rfl
          have hpk := popc_le k
          have hpf := popc_le f0
          refine r_iload_n rfl 20 rfl d_Mod_rescue_19 ?_
          refine r_callS1 (st2 := [.int (nI (popc k))]) (w2 := MW X a ν (u2 σ 40 (t)) τ) lk_JInt_bitCount ln_Mod_262 (c_JInt_bitCount X k (by first | assumption | omega)) (by first | decide | omega) rfl rfl (Nat.le_of_ble_eq_true rfl) (Nat.le_of_ble_eq_true rfl) (Nat.le_of_ble_eq_true rfl) [] rfl rfl rfl rfl rfl 23 rfl d_Mod_rescue_20 ?_
          refine r_iload_n rfl 24 rfl d_Mod_rescue_23 ?_
          refine r_topi (nI f0) rfl ?_
          refine r_callS1 (st2 := [.int (nI (popc f0)), .int (nI (popc k))]) (w2 := MW X a ν (u2 σ 40 (t)) τ) lk_JInt_bitCount ln_Mod_262 (c_JInt_bitCount X f0 (by first | assumption | omega)) (by first | decide | omega) rfl rfl (Nat.le_of_ble_eq_true rfl) (Nat.le_of_ble_eq_true rfl) (Nat.le_of_ble_eq_true rfl) [] rfl rfl rfl rfl rfl 27 rfl d_Mod_rescue_24 ?_
          refine r_icmp_geN (popc k) (popc f0) (by omega) (by omega) 30 40 rfl rfl d_Mod_rescue_27 (fun h27 => ?_) (fun h27 => ?_)
          · refine r_iinc (ls2 := [some (.ref (a 0)), some (.int (rs (some f0))), some (.int (nI (k + 1)))]) (nI (k + 1)) rfl (nI_1 _) 43 rfl d_Mod_rescue_40 (by decide) rfl rfl ?_
            refine r_goto 4 rfl d_Mod_rescue_43 ?_
            exact ih2 (k + 1) (some f0) (t) (by omega) (by simp [resc, ← ho, Nat.not_lt.mpr h27]) (hf) (by omega)
          · refine r_aload_n rfl 31 rfl d_Mod_rescue_30 ?_
            refine r_iload_n rfl 32 rfl d_Mod_rescue_31 ?_
            refine r_callVA1 (st2 := [.int (bI (sv (ν 0) (σ 3) (σ 5) k))]) (w2 := MW X a ν (u2 (u2 σ 40 (t)) 40 (keepF ν (u2 σ 40 (t)) (t))) τ) lk_Mod_saves ln_Mod_267 (c_Mod_saves X a ν (u2 σ 40 (t)) τ hn6 k (by first | assumption | omega)) (by first | decide | omega) rfl rfl (Nat.le_of_ble_eq_true rfl) (Nat.le_of_ble_eq_true rfl) (Nat.le_of_ble_eq_true rfl) 0 rfl rfl rfl rfl 35 rfl d_Mod_rescue_32 ?_
            refine r_if_eqB 38 40 rfl rfl d_Mod_rescue_35 (fun h35 => ?_) (fun h35 => ?_)
            · refine r_iinc (ls2 := [some (.ref (a 0)), some (.int (rs (some f0))), some (.int (nI (k + 1)))]) (nI (k + 1)) rfl (nI_1 _) 43 rfl d_Mod_rescue_40 (by decide) rfl rfl ?_
              refine r_goto 4 rfl d_Mod_rescue_43 ?_
              refine Runs.cast (ih2 (k + 1) (some f0) (keepF ν (u2 σ 40 (t)) (t)) (by omega) (by simp [resc, ← ho, h27, h35]) (hf) (by omega)) (rfl) rfl (by rw [u2_u2]; try rfl)
            · refine r_iload_n rfl 39 rfl d_Mod_rescue_38 ?_
              refine r_istore_n (ls2 := [some (.ref (a 0)), some (.int (nI k)), some (.int (nI k))]) 40 rfl d_Mod_rescue_39 (by decide) rfl rfl ?_
              refine r_iinc (ls2 := [some (.ref (a 0)), some (.int (nI k)), some (.int (nI (k + 1)))]) (nI (k + 1)) rfl (nI_1 _) 43 rfl d_Mod_rescue_40 (by decide) rfl rfl ?_
              refine r_goto 4 rfl d_Mod_rescue_43 ?_
              refine Runs.cast (ih2 (k + 1) (some k) (keepF ν (u2 σ 40 (t)) (t)) (by omega) (by simp [resc, ← ho, h27, h35]) (fun z hz => by cases hz; omega) (by omega)) (rfl) rfl (by rw [u2_u2]; try rfl)
  refine Runs.cast (L4_1 _ 0 none (σ 40) (Nat.zero_le _) (rfl) (fun z hz => by cases hz) (Nat.lt_succ_self _)) (rfl) rfl (by rw [u2_self])
theorem c_Mod_balances (X : Xn) (a ν : Nat → Nat) (σ : Nat → Nat → Int32) (τ : Nat → Int64) (hn6 : ν 0 ≤ 6) (S : Nat) (hS : S < 64) : Does X 3 M_Mod_balances [.ref (a 0), .int (nI S)] (MW X a ν σ τ) 0 0 (fun (vv : Option Value) (ww : va_W) => vv = some (.int (bsum (ν 0) (σ 5) S (ν 0))) ∧ ww = MW X a ν σ τ) := by
  generalize hQ : (fun (vv : Option Value) (ww : va_W) => vv = some (.int (bsum (ν 0) (σ 5) S (ν 0))) ∧ ww = MW X a ν σ τ) = Q
  refine Does.go rfl (Nat.le_of_ble_eq_true rfl) [some (.ref (a 0)), some (.int (nI S)), none, none] 2 rfl ?_
  refine r_iconst (nI 0) rfl 1 rfl d_Mod_balances_0 ?_
  refine r_istore_n (ls2 := [some (.ref (a 0)), some (.int (nI S)), some (.int (nI 0)), none]) 2 rfl d_Mod_balances_1 (by decide) rfl rfl ?_
  refine r_iconst (nI 0) rfl 3 rfl d_Mod_balances_2 ?_
  refine r_istore_n (ls2 := [some (.ref (a 0)), some (.int (nI S)), some (.int (nI 0)), some (.int (nI 0))]) 4 rfl d_Mod_balances_3 (by decide) rfl rfl ?_
  have L4_1 : ∀ (f : Nat) (k : Nat), (k ≤ ν 0) → ν 0 - k < f → Runs X 3 M_Mod_balances 0 0 Q 4 [some (.ref (a 0)), some (.int (nI S)), some (.int (bsum (ν 0) (σ 5) S k)), some (.int (nI k))] [] 0 0 (MW X a ν σ τ) := by
    intro f
    induction f with
    | zero => intro k hk hmu; exact absurd hmu (Nat.not_lt_zero _)
    | succ f ih2 =>
      intro k hk hmu
      refine r_iload_n rfl 5 rfl d_Mod_balances_4 ?_
      refine r_aload_n rfl 6 rfl d_Mod_balances_5 ?_
      refine r_getf (v := .int (nI (ν 0))) gf_Mod_111 0 rfl rfl 9 rfl d_Mod_balances_6 ?_
      refine r_icmp_geN k (ν 0) (by omega) (by omega) 12 35 rfl rfl d_Mod_balances_9 (fun h9 => ?_) (fun h9 => ?_)
      · refine r_iload_n rfl 36 rfl d_Mod_balances_35 ?_
        exact r_iret rfl (Nat.zero_le _) (Nat.zero_le _) d_Mod_balances_36 (by rw [← hQ]; exact ⟨by rw [show k = ν 0 by omega], rfl⟩)
      · refine r_iload_n rfl 13 rfl d_Mod_balances_12 ?_
        refine r_iload_n rfl 14 rfl d_Mod_balances_13 ?_
        refine r_ishr 15 rfl d_Mod_balances_14 ?_
        refine r_topi (nI (S >>> k)) (nI_shr (by omega) (by omega)) ?_
        refine r_iconst (nI 1) rfl 16 rfl d_Mod_balances_15 ?_
        refine r_iand 17 rfl d_Mod_balances_16 ?_
        refine r_topi (nI ((S >>> k) &&& 1)) (nx_and _ _) ?_
        refine r_iconst (nI 1) rfl 18 rfl d_Mod_balances_17 ?_
        refine r_icmp_neN ((S >>> k) &&& 1) 1 (b_lt31 _) (by omega) 21 29 rfl rfl d_Mod_balances_18 (fun h18 => ?_) (fun h18 => ?_)
        · refine r_iinc (ls2 := [some (.ref (a 0)), some (.int (nI S)), some (.int (bsum (ν 0) (σ 5) S k)), some (.int (nI (k + 1)))]) (nI (k + 1)) rfl (nI_1 _) 32 rfl d_Mod_balances_29 (by decide) rfl rfl ?_
          refine r_goto 4 rfl d_Mod_balances_32 ?_
          refine Runs.cast (ih2 (k + 1) (by omega) (by omega)) (by first | (rw [bsum, if_pos h18]; done) | (rw [bsum, if_neg h18]; done)) rfl (rfl)
        · refine r_iload_n rfl 22 rfl d_Mod_balances_21 ?_
          refine r_aload_n rfl 23 rfl d_Mod_balances_22 ?_
          refine r_iload_n rfl 24 rfl d_Mod_balances_23 ?_
          refine r_callVA1 (st2 := [.int (bal (ν 0) (σ 5) k), .int (bsum (ν 0) (σ 5) S k)]) (w2 := MW X a ν σ τ) lk_Mod_balance ln_Mod_131 (c_Mod_balance X a ν σ τ hn6 k (by omega)) (by first | decide | omega) rfl rfl (Nat.le_of_ble_eq_true rfl) (Nat.le_of_ble_eq_true rfl) (Nat.le_of_ble_eq_true rfl) 0 rfl rfl rfl rfl 27 rfl d_Mod_balances_24 ?_
          refine r_iadd 28 rfl d_Mod_balances_27 ?_
          refine r_istore_n (ls2 := [some (.ref (a 0)), some (.int (nI S)), some (.int ((bsum (ν 0) (σ 5) S k) + (bal (ν 0) (σ 5) k))), some (.int (nI k))]) 29 rfl d_Mod_balances_28 (by decide) rfl rfl ?_
          refine r_iinc (ls2 := [some (.ref (a 0)), some (.int (nI S)), some (.int ((bsum (ν 0) (σ 5) S k) + (bal (ν 0) (σ 5) k))), some (.int (nI (k + 1)))]) (nI (k + 1)) rfl (nI_1 _) 32 rfl d_Mod_balances_29 (by decide) rfl rfl ?_
          refine r_goto 4 rfl d_Mod_balances_32 ?_
          refine Runs.cast (ih2 (k + 1) (by omega) (by omega)) (by first | (rw [bsum, if_pos h18]; done) | (rw [bsum, if_neg h18]; done)) rfl (rfl)
  exact L4_1 _ 0 (by omega) (Nat.lt_succ_self _)
theorem c_Mod_payments (X : Xn) (a ν : Nat → Nat) (σ : Nat → Nat → Int32) (τ : Nat → Int64) (hn6 : ν 0 ≤ 6) : Does X 4 M_Mod_payments [.ref (a 0)] (MW X a ν σ τ) 0 0 (fun (vv : Option Value) (ww : va_W) => ∃ t : Nat → Int32, vv = some (.int (nI (ν 0) - ptab (ν 0) (σ 5) (σ 41) (1 <<< ν 0 - 1) (1 <<< ν 0 - 1))) ∧ ww = MW X a ν (u2 σ 41 t) τ) := by
  generalize hQ : (fun (vv : Option Value) (ww : va_W) => ∃ t : Nat → Int32, vv = some (.int (nI (ν 0) - ptab (ν 0) (σ 5) (σ 41) (1 <<< ν 0 - 1) (1 <<< ν 0 - 1))) ∧ ww = MW X a ν (u2 σ 41 t) τ) = Q
  refine Does.go rfl (Nat.le_of_ble_eq_true rfl) [some (.ref (a 0)), none, none, none] 3 rfl ?_
  have hK : 1 <<< ν 0 ≤ 64 := shl_lt hn6
  have hK1 : 1 ≤ 1 <<< ν 0 := shl_pos _
  refine r_aload_n rfl 1 rfl d_Mod_payments_0 ?_
  refine r_getf (v := .ref (a 41)) gf_Mod_91 0 rfl rfl 4 rfl d_Mod_payments_1 ?_
  refine r_iconst (nI 0) rfl 5 rfl d_Mod_payments_4 ?_
  refine r_iconst (nI 0) rfl 6 rfl d_Mod_payments_5 ?_
  refine r_iast (w2 := MW X a ν (u2 σ 41 (upd (σ 41) 0 (nI 0))) τ) 27 rfl 0 rfl (by omega) (by omega) rfl 7 rfl d_Mod_payments_6 ?_
  refine r_iconst (nI 1) rfl 8 rfl d_Mod_payments_7 ?_
  refine r_istore_n (ls2 := [some (.ref (a 0)), some (.int (nI 1)), none, none]) 9 rfl d_Mod_payments_8 (by decide) rfl rfl ?_
  have L9_1 : ∀ (f : Nat) (s : Nat), (s + 1 ≤ 1 <<< ν 0) → 1 <<< ν 0 - s < f → Runs X 4 M_Mod_payments 0 0 Q 9 [some (.ref (a 0)), some (.int (nI (s + 1))), none, none] [] 0 0 (MW X a ν (u2 σ 41 (ptab (ν 0) (σ 5) (σ 41) s)) τ) := by
    intro f
    induction f with
    | zero => intro s hs hmu; exact absurd hmu (Nat.not_lt_zero _)
    | succ f ih2 =>
      intro s hs hmu
      refine r_iload_n rfl 10 rfl d_Mod_payments_9 ?_
      refine r_iconst (nI 1) rfl 11 rfl d_Mod_payments_10 ?_
      refine r_aload_n rfl 12 rfl d_Mod_payments_11 ?_
      refine r_getf (v := .int (nI (ν 0))) gf_Mod_111 0 rfl rfl 15 rfl d_Mod_payments_12 ?_
      refine r_ishl 16 rfl d_Mod_payments_15 ?_
      refine r_topi (nI (1 <<< (ν 0))) (nI_shl (by omega) (one_shl (by omega))) ?_
      refine r_icmp_geN (s + 1) (1 <<< (ν 0)) (by omega) (shl_lt31 (by omega)) 19 103 rfl rfl d_Mod_payments_16 (fun h16 => ?_) (fun h16 => ?_)
      · refine r_aload_n rfl 104 rfl d_Mod_payments_103 ?_
        refine r_getf (v := .int (nI (ν 0))) gf_Mod_111 0 rfl rfl 107 rfl d_Mod_payments_104 ?_
        refine r_aload_n rfl 108 rfl d_Mod_payments_107 ?_
        refine r_getf (v := .ref (a 41)) gf_Mod_91 0 rfl rfl 111 rfl d_Mod_payments_108 ?_
        refine r_iconst (nI 1) rfl 112 rfl d_Mod_payments_111 ?_
        refine r_aload_n rfl 113 rfl d_Mod_payments_112 ?_
        refine r_getf (v := .int (nI (ν 0))) gf_Mod_111 0 rfl rfl 116 rfl d_Mod_payments_113 ?_
        refine r_ishl 117 rfl d_Mod_payments_116 ?_
        refine r_topi (nI (1 <<< (ν 0))) (nI_shl (by omega) (one_shl (by omega))) ?_
        refine r_iconst (nI 1) rfl 118 rfl d_Mod_payments_117 ?_
        refine r_isub 119 rfl d_Mod_payments_118 ?_
        refine r_topi (nI (1 <<< ν 0 - 1)) (pk_sub hK1) ?_
        refine r_iald 27 rfl (1 <<< ν 0 - 1) rfl (by omega) (by omega) 120 rfl d_Mod_payments_119 ?_
        refine r_isub 121 rfl d_Mod_payments_120 ?_
        exact r_iret rfl (Nat.zero_le _) (Nat.zero_le _) d_Mod_payments_121 (by rw [← hQ]; exact ⟨_, by rw [show s = 1 <<< ν 0 - 1 by omega]; rfl, rfl⟩)
      · refine r_iload_n rfl 20 rfl d_Mod_payments_19 ?_
        refine r_iload_n rfl 21 rfl d_Mod_payments_20 ?_
        refine r_ineg 22 rfl d_Mod_payments_21 ?_
        refine r_iand 23 rfl d_Mod_payments_22 ?_
        refine r_topi (nI (lowb (s + 1))) (lowb_eq _ (by omega)) ?_
        refine r_istore_n (ls2 := [some (.ref (a 0)), some (.int (nI (s + 1))), some (.int (nI (lowb (s + 1)))), none]) 24 rfl d_Mod_payments_23 (by decide) rfl rfl ?_
        refine r_aload_n rfl 25 rfl d_Mod_payments_24 ?_
        refine r_getf (v := .ref (a 41)) gf_Mod_91 0 rfl rfl 28 rfl d_Mod_payments_25 ?_
        refine r_iload_n rfl 29 rfl d_Mod_payments_28 ?_
        refine r_bipush ((-99)) rfl 31 rfl d_Mod_payments_29 ?_
        refine r_iast (w2 := MW X a ν (u2 (u2 σ 41 (ptab (ν 0) (σ 5) (σ 41) s)) 41 (upd (ptab (ν 0) (σ 5) (σ 41) s) (s + 1) (-99))) τ) 27 rfl (s + 1) rfl (by omega) (by omega) rfl 32 rfl d_Mod_payments_31 ?_
        refine r_iconst (nI 1) rfl 33 rfl d_Mod_payments_32 ?_
        refine r_istore_n (ls2 := [some (.ref (a 0)), some (.int (nI (s + 1))), some (.int (nI (lowb (s + 1)))), some (.int (nI 1))]) 34 rfl d_Mod_payments_33 (by decide) rfl rfl ?_
        have L34_3 : ∀ (f : Nat) (o : Nat), (o ≤ s + 1) → s + 1 - o < f → Runs X 4 M_Mod_payments 0 0 Q 34 [some (.ref (a 0)), some (.int (nI (s + 1))), some (.int (nI (lowb (s + 1)))), some (.int (nI (o + 1)))] [] 0 0 (MW X a ν (u2 σ 41 (upd (ptab (ν 0) (σ 5) (σ 41) s) (s + 1) (pb (ν 0) (σ 5) (ptab (ν 0) (σ 5) (σ 41) s) (s + 1) o))) τ) := by
          intro f
          induction f with
          | zero => intro o ho hmu; exact absurd hmu (Nat.not_lt_zero _)
          | succ f ih4 =>
            intro o ho hmu
            refine r_iload_n rfl 35 rfl d_Mod_payments_34 ?_
            refine r_iload_n rfl 36 rfl d_Mod_payments_35 ?_
            refine r_icmp_gtN (o + 1) (s + 1) (by omega) (by omega) 39 97 rfl rfl d_Mod_payments_36 (fun h36 => ?_) (fun h36 => ?_)
            · refine r_iinc (ls2 := [some (.ref (a 0)), some (.int (nI ((s + 1) + 1))), some (.int (nI (lowb (s + 1)))), some (.int (nI (o + 1)))]) (nI ((s + 1) + 1)) rfl (nI_1 _) 100 rfl d_Mod_payments_97 (by decide) rfl rfl ?_
              refine r_goto 9 rfl d_Mod_payments_100 ?_
              refine r_forget (ls2 := [some (.ref (a 0)), some (.int (nI ((s + 1) + 1))), none, some (.int (nI (o + 1)))]) 2 rfl ?_
              refine r_forget (ls2 := [some (.ref (a 0)), some (.int (nI ((s + 1) + 1))), none, none]) 3 rfl ?_
              refine Runs.cast (ih2 (s + 1) (by omega) (by omega)) (rfl) rfl (by rw [show o = s + 1 by omega]; rfl; try rfl)
            · refine r_iload_n rfl 40 rfl d_Mod_payments_39 ?_
              refine r_iload_n rfl 41 rfl d_Mod_payments_40 ?_
              refine r_iconst ((-1)) rfl 42 rfl d_Mod_payments_41 ?_
              refine r_ixor 43 rfl d_Mod_payments_42 ?_
              refine r_iand 44 rfl d_Mod_payments_43 ?_
              refine r_topi (nI ((o + 1) &&& (63 ^^^ (s + 1)))) (and_not _ _ (by omega) (by omega)) ?_
              refine r_if_neN ((o + 1) &&& (63 ^^^ (s + 1))) (and_lt31 (by omega)) 47 91 rfl rfl d_Mod_payments_44 (fun h44 => ?_) (fun h44 => ?_)
              · refine r_iinc (ls2 := [some (.ref (a 0)), some (.int (nI (s + 1))), some (.int (nI (lowb (s + 1)))), some (.int (nI ((o + 1) + 1)))]) (nI ((o + 1) + 1)) rfl (nI_1 _) 94 rfl d_Mod_payments_91 (by decide) rfl rfl ?_
                refine r_goto 34 rfl d_Mod_payments_94 ?_
                refine Runs.cast (ih4 (o + 1) (by omega) (by omega)) (rfl) rfl (by rw [pb, if_neg (fun z => h44 z.1)]; try rfl)
              · refine r_iload_n rfl 48 rfl d_Mod_payments_47 ?_
                refine r_iload_n rfl 49 rfl d_Mod_payments_48 ?_
                refine r_iand 50 rfl d_Mod_payments_49 ?_
                refine r_topi (nI ((o + 1) &&& (lowb (s + 1)))) (nx_and _ _) ?_
                refine r_if_eqN ((o + 1) &&& (lowb (s + 1))) (and_lt31 (by omega)) 53 91 rfl rfl d_Mod_payments_50 (fun h50 => ?_) (fun h50 => ?_)
                · refine r_iinc (ls2 := [some (.ref (a 0)), some (.int (nI (s + 1))), some (.int (nI (lowb (s + 1)))), some (.int (nI ((o + 1) + 1)))]) (nI ((o + 1) + 1)) rfl (nI_1 _) 94 rfl d_Mod_payments_91 (by decide) rfl rfl ?_
                  refine r_goto 34 rfl d_Mod_payments_94 ?_
                  refine Runs.cast (ih4 (o + 1) (by omega) (by omega)) (rfl) rfl (by rw [pb, if_neg (fun z => z.2.1 h50)]; try rfl)
                · refine r_aload_n rfl 54 rfl d_Mod_payments_53 ?_
                  refine r_iload_n rfl 55 rfl d_Mod_payments_54 ?_
                  refine r_callVA1 (st2 := [.int (bsum (ν 0) (σ 5) (o + 1) (ν 0))]) (w2 := MW X a ν (u2 σ 41 (upd (ptab (ν 0) (σ 5) (σ 41) s) (s + 1) (pb (ν 0) (σ 5) (ptab (ν 0) (σ 5) (σ 41) s) (s + 1) o))) τ) lk_Mod_balances ln_Mod_270 (c_Mod_balances X a ν (u2 σ 41 (upd (ptab (ν 0) (σ 5) (σ 41) s) (s + 1) (pb (ν 0) (σ 5) (ptab (ν 0) (σ 5) (σ 41) s) (s + 1) o))) τ hn6 (o + 1) (by first | assumption | omega)) (by first | decide | omega) rfl rfl (Nat.le_of_ble_eq_true rfl) (Nat.le_of_ble_eq_true rfl) (Nat.le_of_ble_eq_true rfl) 0 rfl rfl rfl rfl 58 rfl d_Mod_payments_55 ?_
                  refine r_if_eq 61 64 rfl rfl d_Mod_payments_58 (fun h58 => ?_) (fun h58 => ?_)
                  · refine r_aload_n rfl 65 rfl d_Mod_payments_64 ?_
                    refine r_getf (v := .ref (a 41)) gf_Mod_91 0 rfl rfl 68 rfl d_Mod_payments_65 ?_
                    refine r_iload_n rfl 69 rfl d_Mod_payments_68 ?_
                    refine r_aload_n rfl 70 rfl d_Mod_payments_69 ?_
                    refine r_getf (v := .ref (a 41)) gf_Mod_91 0 rfl rfl 73 rfl d_Mod_payments_70 ?_
                    refine r_iload_n rfl 74 rfl d_Mod_payments_73 ?_
                    refine r_iald 27 rfl (s + 1) rfl (by omega) (by omega) 75 rfl d_Mod_payments_74 ?_
                    refine r_aload_n rfl 76 rfl d_Mod_payments_75 ?_
                    refine r_getf (v := .ref (a 41)) gf_Mod_91 0 rfl rfl 79 rfl d_Mod_payments_76 ?_
                    refine r_iload_n rfl 80 rfl d_Mod_payments_79 ?_
                    refine r_iload_n rfl 81 rfl d_Mod_payments_80 ?_
                    refine r_iconst ((-1)) rfl 82 rfl d_Mod_payments_81 ?_
                    refine r_ixor 83 rfl d_Mod_payments_82 ?_
                    refine r_iand 84 rfl d_Mod_payments_83 ?_
                    refine r_topi (nI ((s + 1) &&& (63 ^^^ (o + 1)))) (and_not _ _ (by omega) (by omega)) ?_
                    refine r_iald 27 rfl ((s + 1) &&& (63 ^^^ (o + 1))) rfl (and_lt64 (by omega)) (by omega) 85 rfl d_Mod_payments_84 ?_
                    refine r_iconst (nI 1) rfl 86 rfl d_Mod_payments_85 ?_
                    refine r_iadd 87 rfl d_Mod_payments_86 ?_
                    refine r_mmax (inTB 1235 (by decide +kernel) rfl) (by first | decide | omega) (Nat.le_of_ble_eq_true rfl) (Nat.le_of_ble_eq_true rfl) (Nat.le_of_ble_eq_true rfl) 90 rfl d_Mod_payments_87 ?_
                    refine r_iast (w2 := MW X a ν (u2 (u2 σ 41 (upd (ptab (ν 0) (σ 5) (σ 41) s) (s + 1) (pb (ν 0) (σ 5) (ptab (ν 0) (σ 5) (σ 41) s) (s + 1) o))) 41 (upd (upd (ptab (ν 0) (σ 5) (σ 41) s) (s + 1) (pb (ν 0) (σ 5) (ptab (ν 0) (σ 5) (σ 41) s) (s + 1) o)) (s + 1) (if ((upd (ptab (ν 0) (σ 5) (σ 41) s) (s + 1) (pb (ν 0) (σ 5) (ptab (ν 0) (σ 5) (σ 41) s) (s + 1) o)) (s + 1)) < (((upd (ptab (ν 0) (σ 5) (σ 41) s) (s + 1) (pb (ν 0) (σ 5) (ptab (ν 0) (σ 5) (σ 41) s) (s + 1) o)) ((s + 1) &&& (63 ^^^ (o + 1)))) + (nI 1)) then (((upd (ptab (ν 0) (σ 5) (σ 41) s) (s + 1) (pb (ν 0) (σ 5) (ptab (ν 0) (σ 5) (σ 41) s) (s + 1) o)) ((s + 1) &&& (63 ^^^ (o + 1)))) + (nI 1)) else ((upd (ptab (ν 0) (σ 5) (σ 41) s) (s + 1) (pb (ν 0) (σ 5) (ptab (ν 0) (σ 5) (σ 41) s) (s + 1) o)) (s + 1))))) τ) 27 rfl (s + 1) rfl (by omega) (by omega) rfl 91 rfl d_Mod_payments_90 ?_
                    refine r_iinc (ls2 := [some (.ref (a 0)), some (.int (nI (s + 1))), some (.int (nI (lowb (s + 1)))), some (.int (nI ((o + 1) + 1)))]) (nI ((o + 1) + 1)) rfl (nI_1 _) 94 rfl d_Mod_payments_91 (by decide) rfl rfl ?_
                    refine r_goto 34 rfl d_Mod_payments_94 ?_
                    refine Runs.cast (ih4 (o + 1) (by omega) (by omega)) (rfl) rfl (by rw [u2_u2, upd_upd, pb_t h44 h50 h58, pk_us]; try rfl)
                  · refine r_goto 91 rfl d_Mod_payments_61 ?_
                    refine r_iinc (ls2 := [some (.ref (a 0)), some (.int (nI (s + 1))), some (.int (nI (lowb (s + 1)))), some (.int (nI ((o + 1) + 1)))]) (nI ((o + 1) + 1)) rfl (nI_1 _) 94 rfl d_Mod_payments_91 (by decide) rfl rfl ?_
                    refine r_goto 34 rfl d_Mod_payments_94 ?_
                    refine Runs.cast (ih4 (o + 1) (by omega) (by omega)) (rfl) rfl (by rw [pb, if_neg (fun z => h58 z.2.2)]; try rfl)
        refine Runs.cast (L34_3 _ 0 (by omega) (Nat.lt_succ_self _)) (rfl) rfl (by rw [u2_u2]; rfl)
  refine Runs.cast (L9_1 _ 0 (by omega) (Nat.lt_succ_self _)) (rfl) rfl (rfl)
theorem c_Mod_ringFrom (X : Xn) (a ν : Nat → Nat) (σ : Nat → Nat → Int32) (τ : Nat → Int64) (hn6 : ν 0 ≤ 6) (w : Nat) (hw : w < ν 0) : ∀ (fu : Nat) (p S m : Nat), (p < 6) → (S < 64) → (cz S < fu) → (m < 100 - fu) → Does X (1 + fu) M_Mod_ringFrom [.ref (a 0), .int (nI w), .int (nI p), .int (nI S), .int (nI m)] (MW X a ν σ τ) 0 0 (fun (vv : Option Value) (ww : va_W) => vv = some (.int (rf (ν 0) (σ 5) w fu p S m)) ∧ ww = MW X a ν σ τ) := by
  intro fu
  induction fu with
  | zero => intro p S m hp hS hc hm; exact absurd hc (Nat.not_lt_zero _)
  | succ fu ihf =>
  intro p S m hp hS hc hm
  generalize hQ : (fun (vv : Option Value) (ww : va_W) => vv = some (.int (rf (ν 0) (σ 5) w (fu + 1) p S m)) ∧ ww = MW X a ν σ τ) = Q
  refine Does.go rfl (Nat.le_of_ble_eq_true rfl) [some (.ref (a 0)), some (.int (nI w)), some (.int (nI p)), some (.int (nI S)), some (.int (nI m)), none, none] 2 rfl ?_
  have J26_1 : Runs X (1 + (fu + 1)) M_Mod_ringFrom 0 0 Q 26 [some (.ref (a 0)), some (.int (nI w)), some (.int (nI p)), some (.int (nI S)), some (.int (nI m)), none, none] [.int (rbase (σ 5) w p m)] 0 0 (MW X a ν σ τ) := by
    refine r_istore (ls2 := [some (.ref (a 0)), some (.int (nI w)), some (.int (nI p)), some (.int (nI S)), some (.int (nI m)), some (.int (rbase (σ 5) w p m)), none]) 28 rfl d_Mod_ringFrom_26 (by decide) rfl rfl ?_
    refine r_iload_n rfl 29 rfl d_Mod_ringFrom_28 ?_
    refine r_iconst (nI 1) rfl 30 rfl d_Mod_ringFrom_29 ?_
    refine r_iadd 31 rfl d_Mod_ringFrom_30 ?_
    refine r_topi (nI (w + 1)) (nI_add _ _) ?_
    refine r_istore (ls2 := [some (.ref (a 0)), some (.int (nI w)), some (.int (nI p)), some (.int (nI S)), some (.int (nI m)), some (.int (rbase (σ 5) w p m)), some (.int (nI (w + 1)))]) 33 rfl d_Mod_ringFrom_31 (by decide) rfl rfl ?_
    have L33_2 : ∀ (f : Nat) (k : Nat), (w + 1 + k ≤ ν 0 ∨ k = 0) → ν 0 - (w + 1 + k) < f → Runs X (1 + (fu + 1)) M_Mod_ringFrom 0 0 Q 33 [some (.ref (a 0)), some (.int (nI w)), some (.int (nI p)), some (.int (nI S)), some (.int (nI m)), some (.int (foldN (rstep (ν 0) (σ 5) w fu p S m) (rbase (σ 5) w p m) k)), some (.int (nI (w + 1 + k)))] [] 0 0 (MW X a ν σ τ) := by
      intro f
      induction f with
      | zero => intro k hk hmu; exact absurd hmu (Nat.not_lt_zero _)
      | succ f ih3 =>
        intro k hk hmu
        refine r_iload rfl 35 rfl d_Mod_ringFrom_33 ?_
        refine r_aload_n rfl 36 rfl d_Mod_ringFrom_35 ?_
        refine r_getf (v := .int (nI (ν 0))) gf_Mod_111 0 rfl rfl 39 rfl d_Mod_ringFrom_36 ?_
        refine r_icmp_geN (w + 1 + k) (ν 0) (by omega) (by omega) 42 96 rfl rfl d_Mod_ringFrom_39 (fun h39 => ?_) (fun h39 => ?_)
        · refine r_iload rfl 98 rfl d_Mod_ringFrom_96 ?_
          exact r_iret rfl (Nat.zero_le _) (Nat.zero_le _) d_Mod_ringFrom_98 (by rw [← hQ]; exact ⟨by rw [rf_end h39 hk], rfl⟩)
        · refine r_iload_n rfl 43 rfl d_Mod_ringFrom_42 ?_
          refine r_iload rfl 45 rfl d_Mod_ringFrom_43 ?_
          refine r_ishr 46 rfl d_Mod_ringFrom_45 ?_
          refine r_topi (nI (S >>> (w + 1 + k))) (nI_shr (by omega) (by omega)) ?_
          refine r_iconst (nI 1) rfl 47 rfl d_Mod_ringFrom_46 ?_
          refine r_iand 48 rfl d_Mod_ringFrom_47 ?_
          refine r_topi (nI ((S >>> (w + 1 + k)) &&& 1)) (nx_and _ _) ?_
          refine r_if_neN ((S >>> (w + 1 + k)) &&& 1) (b_lt31 _) 51 90 rfl rfl d_Mod_ringFrom_48 (fun h48 => ?_) (fun h48 => ?_)
          · refine r_iinc (ls2 := [some (.ref (a 0)), some (.int (nI w)), some (.int (nI p)), some (.int (nI S)), some (.int (nI m)), some (.int (foldN (rstep (ν 0) (σ 5) w fu p S m) (rbase (σ 5) w p m) k)), some (.int (nI ((w + 1 + k) + 1)))]) (nI ((w + 1 + k) + 1)) rfl (nI_1 _) 93 rfl d_Mod_ringFrom_90 (by decide) rfl rfl ?_
            refine r_goto 33 rfl d_Mod_ringFrom_93 ?_
            refine Runs.cast (ih3 (k + 1) (Or.inl (by omega)) (by omega)) (by rw [foldN, rstep_b h48]; try rfl) rfl (rfl)
          · refine r_aload_n rfl 52 rfl d_Mod_ringFrom_51 ?_
            refine r_getf (v := .ref (a 5)) gf_Mod_24 0 rfl rfl 55 rfl d_Mod_ringFrom_52 ?_
            refine r_bipush (nI 6) rfl 57 rfl d_Mod_ringFrom_55 ?_
            refine r_iload_n rfl 58 rfl d_Mod_ringFrom_57 ?_
            refine r_imul 59 rfl d_Mod_ringFrom_58 ?_
            refine r_topi (nI (6 * p)) (pk_mul _ _) ?_
            refine r_iload rfl 61 rfl d_Mod_ringFrom_59 ?_
            refine r_iadd 62 rfl d_Mod_ringFrom_61 ?_
            refine r_topi (nI ((6 * p) + (w + 1 + k))) (nI_add _ _) ?_
            refine r_iald 5 rfl ((6 * p) + (w + 1 + k)) rfl (by omega) (by omega) 63 rfl d_Mod_ringFrom_62 ?_
            refine r_if_le 66 90 rfl rfl d_Mod_ringFrom_63 (fun h63 => ?_) (fun h63 => ?_)
            · refine r_iinc (ls2 := [some (.ref (a 0)), some (.int (nI w)), some (.int (nI p)), some (.int (nI S)), some (.int (nI m)), some (.int (foldN (rstep (ν 0) (σ 5) w fu p S m) (rbase (σ 5) w p m) k)), some (.int (nI ((w + 1 + k) + 1)))]) (nI ((w + 1 + k) + 1)) rfl (nI_1 _) 93 rfl d_Mod_ringFrom_90 (by decide) rfl rfl ?_
              refine r_goto 33 rfl d_Mod_ringFrom_93 ?_
              refine Runs.cast (ih3 (k + 1) (Or.inl (by omega)) (by omega)) (by rw [foldN, rstep_d h63]; try rfl) rfl (rfl)
            · refine r_iload rfl 68 rfl d_Mod_ringFrom_66 ?_
              refine r_aload_n rfl 69 rfl d_Mod_ringFrom_68 ?_
              refine r_iload_n rfl 70 rfl d_Mod_ringFrom_69 ?_
              refine r_iload rfl 72 rfl d_Mod_ringFrom_70 ?_
              refine r_iload_n rfl 73 rfl d_Mod_ringFrom_72 ?_
              refine r_iconst (nI 1) rfl 74 rfl d_Mod_ringFrom_73 ?_
              refine r_iload rfl 76 rfl d_Mod_ringFrom_74 ?_
              refine r_ishl 77 rfl d_Mod_ringFrom_76 ?_
              refine r_topi (nI (1 <<< (w + 1 + k))) (nI_shl (by omega) (one_shl (by omega))) ?_
              refine r_ior 78 rfl d_Mod_ringFrom_77 ?_
              refine r_topi (nI (S ||| (1 <<< (w + 1 + k)))) (nx_or _ _) ?_
              refine r_iload rfl 80 rfl d_Mod_ringFrom_78 ?_
              refine r_iconst (nI 1) rfl 81 rfl d_Mod_ringFrom_80 ?_
              refine r_iadd 82 rfl d_Mod_ringFrom_81 ?_
              refine r_topi (nI (m + 1)) (nI_add _ _) ?_
              refine r_callVA1 (st2 := [.int (rf (ν 0) (σ 5) w fu (w + 1 + k) (S ||| (1 <<< (w + 1 + k))) (m + 1)), .int (foldN (rstep (ν 0) (σ 5) w fu p S m) (rbase (σ 5) w p m) k)]) (w2 := MW X a ν σ τ) lk_Mod_ringFrom ln_Mod_276 (ihf (w + 1 + k) (S ||| (1 <<< (w + 1 + k))) (m + 1) (by omega) (or_lt hS (by omega)) (by have := cz_or hS (show w + 1 + k < 6 by omega) h48; omega) (by omega)) (by first | decide | omega) rfl rfl (Nat.le_of_ble_eq_true rfl) (Nat.le_of_ble_eq_true rfl) (Nat.le_of_ble_eq_true rfl) 0 rfl rfl rfl rfl 85 rfl d_Mod_ringFrom_82 ?_
              refine r_mmax (inTB 1235 (by decide +kernel) rfl) (by first | decide | omega) (Nat.le_of_ble_eq_true rfl) (Nat.le_of_ble_eq_true rfl) (Nat.le_of_ble_eq_true rfl) 88 rfl d_Mod_ringFrom_85 ?_
              refine r_istore (ls2 := [some (.ref (a 0)), some (.int (nI w)), some (.int (nI p)), some (.int (nI S)), some (.int (nI m)), some (.int (if (foldN (rstep (ν 0) (σ 5) w fu p S m) (rbase (σ 5) w p m) k) < (rf (ν 0) (σ 5) w fu (w + 1 + k) (S ||| (1 <<< (w + 1 + k))) (m + 1)) then (rf (ν 0) (σ 5) w fu (w + 1 + k) (S ||| (1 <<< (w + 1 + k))) (m + 1)) else (foldN (rstep (ν 0) (σ 5) w fu p S m) (rbase (σ 5) w p m) k))), some (.int (nI (w + 1 + k)))]) 90 rfl d_Mod_ringFrom_88 (by decide) rfl rfl ?_
              refine r_iinc (ls2 := [some (.ref (a 0)), some (.int (nI w)), some (.int (nI p)), some (.int (nI S)), some (.int (nI m)), some (.int (if (foldN (rstep (ν 0) (σ 5) w fu p S m) (rbase (σ 5) w p m) k) < (rf (ν 0) (σ 5) w fu (w + 1 + k) (S ||| (1 <<< (w + 1 + k))) (m + 1)) then (rf (ν 0) (σ 5) w fu (w + 1 + k) (S ||| (1 <<< (w + 1 + k))) (m + 1)) else (foldN (rstep (ν 0) (σ 5) w fu p S m) (rbase (σ 5) w p m) k))), some (.int (nI ((w + 1 + k) + 1)))]) (nI ((w + 1 + k) + 1)) rfl (nI_1 _) 93 rfl d_Mod_ringFrom_90 (by decide) rfl rfl ?_
              refine r_goto 33 rfl d_Mod_ringFrom_93 ?_
              refine Runs.cast (ih3 (k + 1) (Or.inl (by omega)) (by omega)) (by rw [foldN, rstep_t h48 h63]; try rfl) rfl (rfl)
    exact L33_2 _ 0 (Or.inr rfl) (Nat.lt_succ_self _)
  refine r_iload rfl 2 rfl d_Mod_ringFrom_0 ?_
  refine r_iconst (nI 1) rfl 3 rfl d_Mod_ringFrom_2 ?_
  refine r_icmp_leN m 1 (by omega) (by omega) 6 25 rfl rfl d_Mod_ringFrom_3 (fun h3 => ?_) (fun h3 => ?_)
  · refine r_iconst (nI 0) rfl 26 rfl d_Mod_ringFrom_25 ?_
    refine r_topi (rbase (σ 5) w p m) ((if_neg (fun z => by omega)).symm) ?_
    exact J26_1  
  · refine r_aload_n rfl 7 rfl d_Mod_ringFrom_6 ?_
    refine r_getf (v := .ref (a 5)) gf_Mod_24 0 rfl rfl 10 rfl d_Mod_ringFrom_7 ?_
    refine r_bipush (nI 6) rfl 12 rfl d_Mod_ringFrom_10 ?_
    refine r_iload_n rfl 13 rfl d_Mod_ringFrom_12 ?_
    refine r_imul 14 rfl d_Mod_ringFrom_13 ?_
    refine r_topi (nI (6 * p)) (pk_mul _ _) ?_
    refine r_iload_n rfl 15 rfl d_Mod_ringFrom_14 ?_
    refine r_iadd 16 rfl d_Mod_ringFrom_15 ?_
    refine r_topi (nI ((6 * p) + w)) (nI_add _ _) ?_
    refine r_iald 5 rfl ((6 * p) + w) rfl (by omega) (by omega) 17 rfl d_Mod_ringFrom_16 ?_
    refine r_if_le 20 25 rfl rfl d_Mod_ringFrom_17 (fun h17 => ?_) (fun h17 => ?_)
    · refine r_iconst (nI 0) rfl 26 rfl d_Mod_ringFrom_25 ?_
      refine r_topi (rbase (σ 5) w p m) ((if_neg (fun z => absurd z.2 (Int32.not_lt.mpr h17))).symm) ?_
      exact J26_1  
    · refine r_iload rfl 22 rfl d_Mod_ringFrom_20 ?_
      refine r_goto 26 rfl d_Mod_ringFrom_22 ?_
      refine r_topi (rbase (σ 5) w p m) ((if_pos ⟨h3, Int32.not_le.mp h17⟩).symm) ?_
      exact J26_1  
end
section
/-! THE CALLS: what each answers and changes, as numbers -/
theorem upd_same {f : Nat → Int32} {k : Nat} {x : Int32} (h : f k = x) : upd f k x = f := by rw [← h]; exact upd_self
def ringA (n : Nat) (de : Nat → Int32) : Nat → Int32
  | 0 => 0
  | k + 1 => if ringA n de k < rf n de k 7 k (1 <<< k) 1 then rf n de k 7 k (1 <<< k) 1 else ringA n de k
def b_trader (n : Nat) (k v : Int32) : Bool := inR k (nI 0) (nI 6) && (inR v (nI 0) (nI 9) && !decide (n = 6))
def R_trader (n : Nat) (k v : Int32) : Int32 := if inR k (nI 0) (nI 6) = true then (if inR v (nI 0) (nI 9) = true then (if n = 6 then -4 else nI n) else -2) else -1
def b_owe (n : Nat) (p q x : Int32) : Bool := (isB n p && isB n q) && (!decide (p = q) && inR x (nI 0) (nI 9999))
def R_owe (n : Nat) (de : Nat → Int32) (p q x : Int32) : Int32 := if (isB n p && isB n q) = true then (if p = q then -2 else if inR x (nI 0) (nI 9999) = true then de (6 * cn p + cn q) else -2) else -1
def b_purse (n : Nat) (p x : Int32) : Bool := isB n p && inR x (nI 0) (nI 9999)
def R_purse (n : Nat) (pu : Nat → Int32) (p x : Int32) : Int32 := if isB n p = true then (if inR x (nI 0) (nI 9999) = true then pu (cn p) else -2) else -1
def b_row (n : Nat) (kd : Nat → Int32) (p k x : Int32) : Bool := isB n p && (inR k (nI 0) (nI 3) && (inR x (nI 0) (nI 9) && decide (kd (cn p) = nI 6)))
def R_row (n : Nat) (kd rw : Nat → Int32) (p k x : Int32) : Int32 := if isB n p = true then (if inR k (nI 0) (nI 3) = true then (if inR x (nI 0) (nI 9) = true then (if kd (cn p) = nI 6 then rw (4 * cn p + cn k) else -3) else -2) else -1) else -1
def b_feed (t : Nat) (x : Int32) : Bool := inR x (nI 0) (nI 127) && !decide (t = 100)
def R_feed (t : Nat) (x : Int32) : Int32 := if inR x (nI 0) (nI 127) = true then (if t = 100 then -4 else nI (t + 1)) else -2
def b_pass (d : Nat) (x : Int32) : Bool := inR x (nI 0) (nI 60) && decide (d + cn x ≤ 9999)
def R_pass (d : Nat) (x : Int32) : Int32 := if inR x (nI 0) (nI 60) = true then (if 9999 < d + cn x then -3 else nI (d + cn x)) else -2
def b_see (n m : Nat) (p q s x y : Int32) : Bool := !decide (p = -1) && ((isB n p && isB n q) && (!decide (p = q) && (inR s (nI 0) (nI 99) && (inR x (nI 0) (nI 20) && (inR y (nI 0) (nI 999) && !decide (m = 5))))))
def R_see (n m : Nat) (p q s x y : Int32) : Int32 := if p = -1 then nI 0 else if (isB n p && isB n q) = true then (if p = q then -2 else if inR s (nI 0) (nI 99) = true then (if inR x (nI 0) (nI 20) = true then (if inR y (nI 0) (nI 999) = true then (if m = 5 then -4 else nI (m + 1)) else -2) else -2) else -2) else -1
def N_see (n m : Nat) (p q s x y : Int32) : Nat := if p = -1 then 0 else if b_see n m p q s x y = true then m + 1 else m
def b_plan (n m : Nat) (w p : Int32) : Bool := !decide (w = -1) && (inR w (nI 0) (nI 3) && ((decide (cn w = 0) || isB n p) && !decide (m = 10)))
def R_plan (n m : Nat) (w p : Int32) : Int32 := if w = -1 then nI 0 else if inR w (nI 0) (nI 3) = true ∧ (cn w = 0 ∨ isB n p = true) then (if m = 10 then -4 else nI (m + 1)) else -1
def N_plan (n m : Nat) (w p : Int32) : Nat := if w = -1 then 0 else if b_plan n m w p = true then m + 1 else m
def b_book (n m : Nat) (p q x : Int32) : Bool := !decide (p = -1) && ((isB n p && isB n q) && (!decide (p = q) && (inR x (nI 0) (nI 9999) && !decide (m = 8))))
def R_book (n m : Nat) (p q x : Int32) : Int32 := if p = -1 then nI 0 else if (isB n p && isB n q) = true then (if p = q then -2 else if inR x (nI 0) (nI 9999) = true then (if m = 8 then -4 else nI (m + 1)) else -2) else -1
def N_book (n m : Nat) (p q x : Int32) : Nat := if p = -1 then 0 else if b_book n m p q x = true then m + 1 else m
theorem m1n {P : Nat} (h : P < 2 ^ 31 := by omega) : ¬ nI P = -1 := fun z => by
  have h1 := congrArg Int32.toInt z
  rw [nI_toInt h, show (-1 : Int32).toInt = -1 from by decide] at h1
  omega
end
section
def M_Mod_ring : XM := (⟨"HandshakeBindsModel", "ring", "()I"⟩, prog_11_method_44_code, 3, (some .int))
theorem d_Mod_ring_0 : decode M_Mod_ring.2.1 0 = .ok (.iconst 0, 1) := by decide +kernel
theorem d_Mod_ring_1 : decode M_Mod_ring.2.1 1 = .ok (.istore_n 1, 1) := by decide +kernel
theorem d_Mod_ring_2 : decode M_Mod_ring.2.1 2 = .ok (.iconst 0, 1) := by decide +kernel
theorem d_Mod_ring_3 : decode M_Mod_ring.2.1 3 = .ok (.istore_n 2, 1) := by decide +kernel
theorem d_Mod_ring_4 : decode M_Mod_ring.2.1 4 = .ok (.iload_n 2, 1) := by decide +kernel
theorem d_Mod_ring_5 : decode M_Mod_ring.2.1 5 = .ok (.aload_n 0, 1) := by decide +kernel
theorem d_Mod_ring_6 : decode M_Mod_ring.2.1 6 = .ok (.getfield 111, 3) := by decide +kernel
theorem d_Mod_ring_9 : decode M_Mod_ring.2.1 9 = .ok (.if_icmp .ge 24, 3) := by decide +kernel
theorem d_Mod_ring_33 : decode M_Mod_ring.2.1 33 = .ok (.iload_n 1, 1) := by decide +kernel
theorem d_Mod_ring_34 : decode M_Mod_ring.2.1 34 = .ok (.ireturn, 1) := by decide +kernel
theorem d_Mod_ring_12 : decode M_Mod_ring.2.1 12 = .ok (.iload_n 1, 1) := by decide +kernel
theorem d_Mod_ring_13 : decode M_Mod_ring.2.1 13 = .ok (.aload_n 0, 1) := by decide +kernel
theorem d_Mod_ring_14 : decode M_Mod_ring.2.1 14 = .ok (.iload_n 2, 1) := by decide +kernel
theorem d_Mod_ring_15 : decode M_Mod_ring.2.1 15 = .ok (.iload_n 2, 1) := by decide +kernel
theorem d_Mod_ring_16 : decode M_Mod_ring.2.1 16 = .ok (.iconst 1, 1) := by decide +kernel
theorem d_Mod_ring_17 : decode M_Mod_ring.2.1 17 = .ok (.iload_n 2, 1) := by decide +kernel
theorem d_Mod_ring_18 : decode M_Mod_ring.2.1 18 = .ok (.ishl, 1) := by decide +kernel
theorem d_Mod_ring_19 : decode M_Mod_ring.2.1 19 = .ok (.iconst 1, 1) := by decide +kernel
theorem d_Mod_ring_20 : decode M_Mod_ring.2.1 20 = .ok (.invokevirtual 276, 3) := by decide +kernel
theorem d_Mod_ring_23 : decode M_Mod_ring.2.1 23 = .ok (.invokestatic 273, 3) := by decide +kernel
theorem d_Mod_ring_26 : decode M_Mod_ring.2.1 26 = .ok (.istore_n 1, 1) := by decide +kernel
theorem d_Mod_ring_27 : decode M_Mod_ring.2.1 27 = .ok (.iinc 2 1, 3) := by decide +kernel
theorem d_Mod_ring_30 : decode M_Mod_ring.2.1 30 = .ok (.goto (-26), 3) := by decide +kernel
def M_Mod_offset : XM := (⟨"HandshakeBindsModel", "offset", "()I"⟩, prog_11_method_45_code, 4, (some .int))
theorem d_Mod_offset_0 : decode M_Mod_offset.2.1 0 = .ok (.iconst 0, 1) := by decide +kernel
theorem d_Mod_offset_1 : decode M_Mod_offset.2.1 1 = .ok (.istore_n 1, 1) := by decide +kernel
theorem d_Mod_offset_2 : decode M_Mod_offset.2.1 2 = .ok (.iconst 0, 1) := by decide +kernel
theorem d_Mod_offset_3 : decode M_Mod_offset.2.1 3 = .ok (.istore_n 2, 1) := by decide +kernel
theorem d_Mod_offset_4 : decode M_Mod_offset.2.1 4 = .ok (.iload_n 2, 1) := by decide +kernel
theorem d_Mod_offset_5 : decode M_Mod_offset.2.1 5 = .ok (.aload_n 0, 1) := by decide +kernel
theorem d_Mod_offset_6 : decode M_Mod_offset.2.1 6 = .ok (.getfield 111, 3) := by decide +kernel
theorem d_Mod_offset_9 : decode M_Mod_offset.2.1 9 = .ok (.if_icmp .ge 56, 3) := by decide +kernel
theorem d_Mod_offset_65 : decode M_Mod_offset.2.1 65 = .ok (.iload_n 1, 1) := by decide +kernel
theorem d_Mod_offset_66 : decode M_Mod_offset.2.1 66 = .ok (.ireturn, 1) := by decide +kernel
theorem d_Mod_offset_12 : decode M_Mod_offset.2.1 12 = .ok (.iload_n 2, 1) := by decide +kernel
theorem d_Mod_offset_13 : decode M_Mod_offset.2.1 13 = .ok (.iconst 1, 1) := by decide +kernel
theorem d_Mod_offset_14 : decode M_Mod_offset.2.1 14 = .ok (.iadd, 1) := by decide +kernel
theorem d_Mod_offset_15 : decode M_Mod_offset.2.1 15 = .ok (.istore_n 3, 1) := by decide +kernel
theorem d_Mod_offset_16 : decode M_Mod_offset.2.1 16 = .ok (.iload_n 3, 1) := by decide +kernel
theorem d_Mod_offset_17 : decode M_Mod_offset.2.1 17 = .ok (.aload_n 0, 1) := by decide +kernel
theorem d_Mod_offset_18 : decode M_Mod_offset.2.1 18 = .ok (.getfield 111, 3) := by decide +kernel
theorem d_Mod_offset_21 : decode M_Mod_offset.2.1 21 = .ok (.if_icmp .ge 38, 3) := by decide +kernel
theorem d_Mod_offset_59 : decode M_Mod_offset.2.1 59 = .ok (.iinc 2 1, 3) := by decide +kernel
theorem d_Mod_offset_62 : decode M_Mod_offset.2.1 62 = .ok (.goto (-58), 3) := by decide +kernel
theorem d_Mod_offset_24 : decode M_Mod_offset.2.1 24 = .ok (.iload_n 1, 1) := by decide +kernel
theorem d_Mod_offset_25 : decode M_Mod_offset.2.1 25 = .ok (.aload_n 0, 1) := by decide +kernel
theorem d_Mod_offset_26 : decode M_Mod_offset.2.1 26 = .ok (.getfield 24, 3) := by decide +kernel
theorem d_Mod_offset_29 : decode M_Mod_offset.2.1 29 = .ok (.bipush 6, 2) := by decide +kernel
theorem d_Mod_offset_31 : decode M_Mod_offset.2.1 31 = .ok (.iload_n 2, 1) := by decide +kernel
theorem d_Mod_offset_32 : decode M_Mod_offset.2.1 32 = .ok (.imul, 1) := by decide +kernel
theorem d_Mod_offset_33 : decode M_Mod_offset.2.1 33 = .ok (.iload_n 3, 1) := by decide +kernel
theorem d_Mod_offset_34 : decode M_Mod_offset.2.1 34 = .ok (.iadd, 1) := by decide +kernel
theorem d_Mod_offset_35 : decode M_Mod_offset.2.1 35 = .ok (.iaload, 1) := by decide +kernel
theorem d_Mod_offset_36 : decode M_Mod_offset.2.1 36 = .ok (.aload_n 0, 1) := by decide +kernel
theorem d_Mod_offset_37 : decode M_Mod_offset.2.1 37 = .ok (.getfield 24, 3) := by decide +kernel
theorem d_Mod_offset_40 : decode M_Mod_offset.2.1 40 = .ok (.bipush 6, 2) := by decide +kernel
theorem d_Mod_offset_42 : decode M_Mod_offset.2.1 42 = .ok (.iload_n 3, 1) := by decide +kernel
theorem d_Mod_offset_43 : decode M_Mod_offset.2.1 43 = .ok (.imul, 1) := by decide +kernel
theorem d_Mod_offset_44 : decode M_Mod_offset.2.1 44 = .ok (.iload_n 2, 1) := by decide +kernel
theorem d_Mod_offset_45 : decode M_Mod_offset.2.1 45 = .ok (.iadd, 1) := by decide +kernel
theorem d_Mod_offset_46 : decode M_Mod_offset.2.1 46 = .ok (.iaload, 1) := by decide +kernel
theorem d_Mod_offset_47 : decode M_Mod_offset.2.1 47 = .ok (.isub, 1) := by decide +kernel
theorem d_Mod_offset_48 : decode M_Mod_offset.2.1 48 = .ok (.invokestatic 279, 3) := by decide +kernel
theorem d_Mod_offset_51 : decode M_Mod_offset.2.1 51 = .ok (.iadd, 1) := by decide +kernel
theorem d_Mod_offset_52 : decode M_Mod_offset.2.1 52 = .ok (.istore_n 1, 1) := by decide +kernel
theorem d_Mod_offset_53 : decode M_Mod_offset.2.1 53 = .ok (.iinc 3 1, 3) := by decide +kernel
theorem d_Mod_offset_56 : decode M_Mod_offset.2.1 56 = .ok (.goto (-40), 3) := by decide +kernel
def M_Mod_allDebt : XM := (⟨"HandshakeBindsModel", "allDebt", "()I"⟩, prog_11_method_46_code, 3, (some .int))
theorem d_Mod_allDebt_0 : decode M_Mod_allDebt.2.1 0 = .ok (.iconst 0, 1) := by decide +kernel
theorem d_Mod_allDebt_1 : decode M_Mod_allDebt.2.1 1 = .ok (.istore_n 1, 1) := by decide +kernel
theorem d_Mod_allDebt_2 : decode M_Mod_allDebt.2.1 2 = .ok (.iconst 0, 1) := by decide +kernel
theorem d_Mod_allDebt_3 : decode M_Mod_allDebt.2.1 3 = .ok (.istore_n 2, 1) := by decide +kernel
theorem d_Mod_allDebt_4 : decode M_Mod_allDebt.2.1 4 = .ok (.iload_n 2, 1) := by decide +kernel
theorem d_Mod_allDebt_5 : decode M_Mod_allDebt.2.1 5 = .ok (.aload_n 0, 1) := by decide +kernel
theorem d_Mod_allDebt_6 : decode M_Mod_allDebt.2.1 6 = .ok (.getfield 111, 3) := by decide +kernel
theorem d_Mod_allDebt_9 : decode M_Mod_allDebt.2.1 9 = .ok (.if_icmp .ge 17, 3) := by decide +kernel
theorem d_Mod_allDebt_26 : decode M_Mod_allDebt.2.1 26 = .ok (.iload_n 1, 1) := by decide +kernel
theorem d_Mod_allDebt_27 : decode M_Mod_allDebt.2.1 27 = .ok (.ireturn, 1) := by decide +kernel
theorem d_Mod_allDebt_12 : decode M_Mod_allDebt.2.1 12 = .ok (.iload_n 1, 1) := by decide +kernel
theorem d_Mod_allDebt_13 : decode M_Mod_allDebt.2.1 13 = .ok (.aload_n 0, 1) := by decide +kernel
theorem d_Mod_allDebt_14 : decode M_Mod_allDebt.2.1 14 = .ok (.iload_n 2, 1) := by decide +kernel
theorem d_Mod_allDebt_15 : decode M_Mod_allDebt.2.1 15 = .ok (.invokevirtual 126, 3) := by decide +kernel
theorem d_Mod_allDebt_18 : decode M_Mod_allDebt.2.1 18 = .ok (.iadd, 1) := by decide +kernel
theorem d_Mod_allDebt_19 : decode M_Mod_allDebt.2.1 19 = .ok (.istore_n 1, 1) := by decide +kernel
theorem d_Mod_allDebt_20 : decode M_Mod_allDebt.2.1 20 = .ok (.iinc 2 1, 3) := by decide +kernel
theorem d_Mod_allDebt_23 : decode M_Mod_allDebt.2.1 23 = .ok (.goto (-19), 3) := by decide +kernel
def M_Mod_owe : XM := (⟨"HandshakeBindsModel", "owe", "(III)I"⟩, prog_11_method_11_code, 5, (some .int))
theorem d_Mod_owe_0 : decode M_Mod_owe.2.1 0 = .ok (.aload_n 0, 1) := by decide +kernel
theorem d_Mod_owe_1 : decode M_Mod_owe.2.1 1 = .ok (.iload_n 1, 1) := by decide +kernel
theorem d_Mod_owe_2 : decode M_Mod_owe.2.1 2 = .ok (.iload_n 2, 1) := by decide +kernel
theorem d_Mod_owe_3 : decode M_Mod_owe.2.1 3 = .ok (.invokevirtual 140, 3) := by decide +kernel
theorem ln_Mod_140 : Cond.methodLink "HandshakeBindsModel" 140 M_Mod_are.1 ∈ TB := inTB 1030 (by decide +kernel) rfl
theorem lk_Mod_are : LVt M_Mod_are 2 := ⟨⟨inTB 72 (by decide +kernel) rfl, inTB 1033 (by decide +kernel) rfl, ⟨by decide, by decide, by decide +kernel⟩, by decide⟩, inTB 1032 (by decide +kernel) rfl, inTB 26 (by decide +kernel) rfl⟩
theorem d_Mod_owe_6 : decode M_Mod_owe.2.1 6 = .ok (.ifCond .ne 5, 3) := by decide +kernel
theorem d_Mod_owe_11 : decode M_Mod_owe.2.1 11 = .ok (.iload_n 1, 1) := by decide +kernel
theorem d_Mod_owe_12 : decode M_Mod_owe.2.1 12 = .ok (.iload_n 2, 1) := by decide +kernel
theorem d_Mod_owe_13 : decode M_Mod_owe.2.1 13 = .ok (.if_icmp .eq 14, 3) := by decide +kernel
theorem d_Mod_owe_27 : decode M_Mod_owe.2.1 27 = .ok (.bipush (-2), 2) := by decide +kernel
theorem d_Mod_owe_29 : decode M_Mod_owe.2.1 29 = .ok (.ireturn, 1) := by decide +kernel
theorem d_Mod_owe_16 : decode M_Mod_owe.2.1 16 = .ok (.iload_n 3, 1) := by decide +kernel
theorem d_Mod_owe_17 : decode M_Mod_owe.2.1 17 = .ok (.iconst 0, 1) := by decide +kernel
theorem d_Mod_owe_18 : decode M_Mod_owe.2.1 18 = .ok (.sipush 9999, 3) := by decide +kernel
theorem d_Mod_owe_21 : decode M_Mod_owe.2.1 21 = .ok (.invokestatic 114, 3) := by decide +kernel
theorem d_Mod_owe_24 : decode M_Mod_owe.2.1 24 = .ok (.ifCond .ne 6, 3) := by decide +kernel
theorem d_Mod_owe_30 : decode M_Mod_owe.2.1 30 = .ok (.aload_n 0, 1) := by decide +kernel
theorem d_Mod_owe_31 : decode M_Mod_owe.2.1 31 = .ok (.getfield 24, 3) := by decide +kernel
theorem d_Mod_owe_34 : decode M_Mod_owe.2.1 34 = .ok (.bipush 6, 2) := by decide +kernel
theorem d_Mod_owe_36 : decode M_Mod_owe.2.1 36 = .ok (.iload_n 1, 1) := by decide +kernel
theorem d_Mod_owe_37 : decode M_Mod_owe.2.1 37 = .ok (.imul, 1) := by decide +kernel
theorem d_Mod_owe_38 : decode M_Mod_owe.2.1 38 = .ok (.iload_n 2, 1) := by decide +kernel
theorem d_Mod_owe_39 : decode M_Mod_owe.2.1 39 = .ok (.iadd, 1) := by decide +kernel
theorem d_Mod_owe_40 : decode M_Mod_owe.2.1 40 = .ok (.iaload, 1) := by decide +kernel
theorem d_Mod_owe_41 : decode M_Mod_owe.2.1 41 = .ok (.istore 4, 2) := by decide +kernel
theorem d_Mod_owe_43 : decode M_Mod_owe.2.1 43 = .ok (.aload_n 0, 1) := by decide +kernel
theorem d_Mod_owe_44 : decode M_Mod_owe.2.1 44 = .ok (.getfield 24, 3) := by decide +kernel
theorem d_Mod_owe_47 : decode M_Mod_owe.2.1 47 = .ok (.bipush 6, 2) := by decide +kernel
theorem d_Mod_owe_49 : decode M_Mod_owe.2.1 49 = .ok (.iload_n 1, 1) := by decide +kernel
theorem d_Mod_owe_50 : decode M_Mod_owe.2.1 50 = .ok (.imul, 1) := by decide +kernel
theorem d_Mod_owe_51 : decode M_Mod_owe.2.1 51 = .ok (.iload_n 2, 1) := by decide +kernel
theorem d_Mod_owe_52 : decode M_Mod_owe.2.1 52 = .ok (.iadd, 1) := by decide +kernel
theorem d_Mod_owe_53 : decode M_Mod_owe.2.1 53 = .ok (.iload_n 3, 1) := by decide +kernel
theorem d_Mod_owe_54 : decode M_Mod_owe.2.1 54 = .ok (.iastore, 1) := by decide +kernel
theorem d_Mod_owe_55 : decode M_Mod_owe.2.1 55 = .ok (.iload 4, 2) := by decide +kernel
theorem d_Mod_owe_57 : decode M_Mod_owe.2.1 57 = .ok (.ireturn, 1) := by decide +kernel
theorem d_Mod_owe_9 : decode M_Mod_owe.2.1 9 = .ok (.iconst (-1), 1) := by decide +kernel
theorem d_Mod_owe_10 : decode M_Mod_owe.2.1 10 = .ok (.ireturn, 1) := by decide +kernel
def M_Mod_purse : XM := (⟨"HandshakeBindsModel", "purse", "(II)I"⟩, prog_11_method_12_code, 4, (some .int))
theorem d_Mod_purse_0 : decode M_Mod_purse.2.1 0 = .ok (.aload_n 0, 1) := by decide +kernel
theorem d_Mod_purse_1 : decode M_Mod_purse.2.1 1 = .ok (.iload_n 1, 1) := by decide +kernel
theorem d_Mod_purse_2 : decode M_Mod_purse.2.1 2 = .ok (.invokevirtual 118, 3) := by decide +kernel
theorem d_Mod_purse_5 : decode M_Mod_purse.2.1 5 = .ok (.ifCond .ne 5, 3) := by decide +kernel
theorem d_Mod_purse_10 : decode M_Mod_purse.2.1 10 = .ok (.iload_n 2, 1) := by decide +kernel
theorem d_Mod_purse_11 : decode M_Mod_purse.2.1 11 = .ok (.iconst 0, 1) := by decide +kernel
theorem d_Mod_purse_12 : decode M_Mod_purse.2.1 12 = .ok (.sipush 9999, 3) := by decide +kernel
theorem d_Mod_purse_15 : decode M_Mod_purse.2.1 15 = .ok (.invokestatic 114, 3) := by decide +kernel
theorem d_Mod_purse_18 : decode M_Mod_purse.2.1 18 = .ok (.ifCond .ne 6, 3) := by decide +kernel
theorem d_Mod_purse_24 : decode M_Mod_purse.2.1 24 = .ok (.aload_n 0, 1) := by decide +kernel
theorem d_Mod_purse_25 : decode M_Mod_purse.2.1 25 = .ok (.getfield 18, 3) := by decide +kernel
theorem d_Mod_purse_28 : decode M_Mod_purse.2.1 28 = .ok (.iload_n 1, 1) := by decide +kernel
theorem d_Mod_purse_29 : decode M_Mod_purse.2.1 29 = .ok (.iaload, 1) := by decide +kernel
theorem d_Mod_purse_30 : decode M_Mod_purse.2.1 30 = .ok (.istore_n 3, 1) := by decide +kernel
theorem d_Mod_purse_31 : decode M_Mod_purse.2.1 31 = .ok (.aload_n 0, 1) := by decide +kernel
theorem d_Mod_purse_32 : decode M_Mod_purse.2.1 32 = .ok (.getfield 18, 3) := by decide +kernel
theorem d_Mod_purse_35 : decode M_Mod_purse.2.1 35 = .ok (.iload_n 1, 1) := by decide +kernel
theorem d_Mod_purse_36 : decode M_Mod_purse.2.1 36 = .ok (.iload_n 2, 1) := by decide +kernel
theorem d_Mod_purse_37 : decode M_Mod_purse.2.1 37 = .ok (.iastore, 1) := by decide +kernel
theorem d_Mod_purse_38 : decode M_Mod_purse.2.1 38 = .ok (.iload_n 3, 1) := by decide +kernel
theorem d_Mod_purse_39 : decode M_Mod_purse.2.1 39 = .ok (.ireturn, 1) := by decide +kernel
theorem d_Mod_purse_21 : decode M_Mod_purse.2.1 21 = .ok (.bipush (-2), 2) := by decide +kernel
theorem d_Mod_purse_23 : decode M_Mod_purse.2.1 23 = .ok (.ireturn, 1) := by decide +kernel
theorem d_Mod_purse_8 : decode M_Mod_purse.2.1 8 = .ok (.iconst (-1), 1) := by decide +kernel
theorem d_Mod_purse_9 : decode M_Mod_purse.2.1 9 = .ok (.ireturn, 1) := by decide +kernel
def M_Mod_row : XM := (⟨"HandshakeBindsModel", "row", "(III)I"⟩, prog_11_method_13_code, 5, (some .int))
theorem d_Mod_row_0 : decode M_Mod_row.2.1 0 = .ok (.aload_n 0, 1) := by decide +kernel
theorem d_Mod_row_1 : decode M_Mod_row.2.1 1 = .ok (.iload_n 1, 1) := by decide +kernel
theorem d_Mod_row_2 : decode M_Mod_row.2.1 2 = .ok (.invokevirtual 118, 3) := by decide +kernel
theorem d_Mod_row_5 : decode M_Mod_row.2.1 5 = .ok (.ifCond .eq 12, 3) := by decide +kernel
theorem d_Mod_row_17 : decode M_Mod_row.2.1 17 = .ok (.iconst (-1), 1) := by decide +kernel
theorem d_Mod_row_18 : decode M_Mod_row.2.1 18 = .ok (.ireturn, 1) := by decide +kernel
theorem d_Mod_row_8 : decode M_Mod_row.2.1 8 = .ok (.iload_n 2, 1) := by decide +kernel
theorem d_Mod_row_9 : decode M_Mod_row.2.1 9 = .ok (.iconst 0, 1) := by decide +kernel
theorem d_Mod_row_10 : decode M_Mod_row.2.1 10 = .ok (.iconst 3, 1) := by decide +kernel
theorem d_Mod_row_11 : decode M_Mod_row.2.1 11 = .ok (.invokestatic 114, 3) := by decide +kernel
theorem d_Mod_row_14 : decode M_Mod_row.2.1 14 = .ok (.ifCond .ne 5, 3) := by decide +kernel
theorem d_Mod_row_19 : decode M_Mod_row.2.1 19 = .ok (.iload_n 3, 1) := by decide +kernel
theorem d_Mod_row_20 : decode M_Mod_row.2.1 20 = .ok (.iconst 0, 1) := by decide +kernel
theorem d_Mod_row_21 : decode M_Mod_row.2.1 21 = .ok (.bipush 9, 2) := by decide +kernel
theorem d_Mod_row_23 : decode M_Mod_row.2.1 23 = .ok (.invokestatic 114, 3) := by decide +kernel
theorem d_Mod_row_26 : decode M_Mod_row.2.1 26 = .ok (.ifCond .ne 6, 3) := by decide +kernel
theorem d_Mod_row_32 : decode M_Mod_row.2.1 32 = .ok (.aload_n 0, 1) := by decide +kernel
theorem d_Mod_row_33 : decode M_Mod_row.2.1 33 = .ok (.getfield 9, 3) := by decide +kernel
theorem d_Mod_row_36 : decode M_Mod_row.2.1 36 = .ok (.iload_n 1, 1) := by decide +kernel
theorem d_Mod_row_37 : decode M_Mod_row.2.1 37 = .ok (.iaload, 1) := by decide +kernel
theorem d_Mod_row_38 : decode M_Mod_row.2.1 38 = .ok (.bipush 6, 2) := by decide +kernel
theorem d_Mod_row_40 : decode M_Mod_row.2.1 40 = .ok (.if_icmp .eq 6, 3) := by decide +kernel
theorem d_Mod_row_46 : decode M_Mod_row.2.1 46 = .ok (.aload_n 0, 1) := by decide +kernel
theorem d_Mod_row_47 : decode M_Mod_row.2.1 47 = .ok (.getfield 21, 3) := by decide +kernel
theorem d_Mod_row_50 : decode M_Mod_row.2.1 50 = .ok (.iconst 4, 1) := by decide +kernel
theorem d_Mod_row_51 : decode M_Mod_row.2.1 51 = .ok (.iload_n 1, 1) := by decide +kernel
theorem d_Mod_row_52 : decode M_Mod_row.2.1 52 = .ok (.imul, 1) := by decide +kernel
theorem d_Mod_row_53 : decode M_Mod_row.2.1 53 = .ok (.iload_n 2, 1) := by decide +kernel
theorem d_Mod_row_54 : decode M_Mod_row.2.1 54 = .ok (.iadd, 1) := by decide +kernel
theorem d_Mod_row_55 : decode M_Mod_row.2.1 55 = .ok (.iaload, 1) := by decide +kernel
theorem d_Mod_row_56 : decode M_Mod_row.2.1 56 = .ok (.istore 4, 2) := by decide +kernel
theorem d_Mod_row_58 : decode M_Mod_row.2.1 58 = .ok (.aload_n 0, 1) := by decide +kernel
theorem d_Mod_row_59 : decode M_Mod_row.2.1 59 = .ok (.getfield 21, 3) := by decide +kernel
theorem d_Mod_row_62 : decode M_Mod_row.2.1 62 = .ok (.iconst 4, 1) := by decide +kernel
theorem d_Mod_row_63 : decode M_Mod_row.2.1 63 = .ok (.iload_n 1, 1) := by decide +kernel
theorem d_Mod_row_64 : decode M_Mod_row.2.1 64 = .ok (.imul, 1) := by decide +kernel
theorem d_Mod_row_65 : decode M_Mod_row.2.1 65 = .ok (.iload_n 2, 1) := by decide +kernel
theorem d_Mod_row_66 : decode M_Mod_row.2.1 66 = .ok (.iadd, 1) := by decide +kernel
theorem d_Mod_row_67 : decode M_Mod_row.2.1 67 = .ok (.iload_n 3, 1) := by decide +kernel
theorem d_Mod_row_68 : decode M_Mod_row.2.1 68 = .ok (.iastore, 1) := by decide +kernel
theorem d_Mod_row_69 : decode M_Mod_row.2.1 69 = .ok (.iload 4, 2) := by decide +kernel
theorem d_Mod_row_71 : decode M_Mod_row.2.1 71 = .ok (.ireturn, 1) := by decide +kernel
theorem d_Mod_row_43 : decode M_Mod_row.2.1 43 = .ok (.bipush (-3), 2) := by decide +kernel
theorem d_Mod_row_45 : decode M_Mod_row.2.1 45 = .ok (.ireturn, 1) := by decide +kernel
theorem d_Mod_row_29 : decode M_Mod_row.2.1 29 = .ok (.bipush (-2), 2) := by decide +kernel
theorem d_Mod_row_31 : decode M_Mod_row.2.1 31 = .ok (.ireturn, 1) := by decide +kernel
def M_Mod_feed : XM := (⟨"HandshakeBindsModel", "feed", "(I)I"⟩, prog_11_method_14_code, 2, (some .int))
theorem d_Mod_feed_0 : decode M_Mod_feed.2.1 0 = .ok (.iload_n 1, 1) := by decide +kernel
theorem d_Mod_feed_1 : decode M_Mod_feed.2.1 1 = .ok (.iconst 0, 1) := by decide +kernel
theorem d_Mod_feed_2 : decode M_Mod_feed.2.1 2 = .ok (.bipush 127, 2) := by decide +kernel
theorem d_Mod_feed_4 : decode M_Mod_feed.2.1 4 = .ok (.invokestatic 114, 3) := by decide +kernel
theorem d_Mod_feed_7 : decode M_Mod_feed.2.1 7 = .ok (.ifCond .ne 6, 3) := by decide +kernel
theorem d_Mod_feed_13 : decode M_Mod_feed.2.1 13 = .ok (.aload_n 0, 1) := by decide +kernel
theorem d_Mod_feed_14 : decode M_Mod_feed.2.1 14 = .ok (.getfield 144, 3) := by decide +kernel
theorem gf_Mod_144 : GF "HandshakeBindsModel" 144 9 7 := ⟨_, _, _, rfl, by decide, i_Mod, inTB 857 (by decide +kernel) rfl⟩
theorem d_Mod_feed_17 : decode M_Mod_feed.2.1 17 = .ok (.bipush 100, 2) := by decide +kernel
theorem d_Mod_feed_19 : decode M_Mod_feed.2.1 19 = .ok (.if_icmp .ne 6, 3) := by decide +kernel
theorem d_Mod_feed_25 : decode M_Mod_feed.2.1 25 = .ok (.aload_n 0, 1) := by decide +kernel
theorem d_Mod_feed_26 : decode M_Mod_feed.2.1 26 = .ok (.getfield 27, 3) := by decide +kernel
theorem gf_Mod_27 : GF "HandshakeBindsModel" 27 9 8 := ⟨_, _, _, rfl, by decide, i_Mod, inTB 858 (by decide +kernel) rfl⟩
theorem d_Mod_feed_29 : decode M_Mod_feed.2.1 29 = .ok (.aload_n 0, 1) := by decide +kernel
theorem d_Mod_feed_30 : decode M_Mod_feed.2.1 30 = .ok (.dup, 1) := by decide +kernel
theorem d_Mod_feed_31 : decode M_Mod_feed.2.1 31 = .ok (.getfield 144, 3) := by decide +kernel
theorem d_Mod_feed_34 : decode M_Mod_feed.2.1 34 = .ok (.dup_x1, 1) := by decide +kernel
theorem d_Mod_feed_35 : decode M_Mod_feed.2.1 35 = .ok (.iconst 1, 1) := by decide +kernel
theorem d_Mod_feed_36 : decode M_Mod_feed.2.1 36 = .ok (.iadd, 1) := by decide +kernel
theorem d_Mod_feed_37 : decode M_Mod_feed.2.1 37 = .ok (.putfield 144, 3) := by decide +kernel
theorem pf_Mod_144 : PF "HandshakeBindsModel" 144 9 7 (.int) false := ⟨_, _, _, t_Mod, rfl, by decide, i_Mod, t_Mod_ok, n_Mod, inTB 857 (by decide +kernel) rfl, rfl, t_Mod_ok 7 (by decide), fun _ => rfl⟩
theorem d_Mod_feed_40 : decode M_Mod_feed.2.1 40 = .ok (.iload_n 1, 1) := by decide +kernel
theorem d_Mod_feed_41 : decode M_Mod_feed.2.1 41 = .ok (.iastore, 1) := by decide +kernel
theorem d_Mod_feed_42 : decode M_Mod_feed.2.1 42 = .ok (.aload_n 0, 1) := by decide +kernel
theorem d_Mod_feed_43 : decode M_Mod_feed.2.1 43 = .ok (.getfield 144, 3) := by decide +kernel
theorem d_Mod_feed_46 : decode M_Mod_feed.2.1 46 = .ok (.ireturn, 1) := by decide +kernel
theorem d_Mod_feed_22 : decode M_Mod_feed.2.1 22 = .ok (.bipush (-4), 2) := by decide +kernel
theorem d_Mod_feed_24 : decode M_Mod_feed.2.1 24 = .ok (.ireturn, 1) := by decide +kernel
theorem d_Mod_feed_10 : decode M_Mod_feed.2.1 10 = .ok (.bipush (-2), 2) := by decide +kernel
theorem d_Mod_feed_12 : decode M_Mod_feed.2.1 12 = .ok (.ireturn, 1) := by decide +kernel
def M_Mod_pass : XM := (⟨"HandshakeBindsModel", "pass", "(I)I"⟩, prog_11_method_48_code, 2, (some .int))
theorem d_Mod_pass_0 : decode M_Mod_pass.2.1 0 = .ok (.iload_n 1, 1) := by decide +kernel
theorem d_Mod_pass_1 : decode M_Mod_pass.2.1 1 = .ok (.iconst 0, 1) := by decide +kernel
theorem d_Mod_pass_2 : decode M_Mod_pass.2.1 2 = .ok (.bipush 60, 2) := by decide +kernel
theorem d_Mod_pass_4 : decode M_Mod_pass.2.1 4 = .ok (.invokestatic 114, 3) := by decide +kernel
theorem d_Mod_pass_7 : decode M_Mod_pass.2.1 7 = .ok (.ifCond .ne 6, 3) := by decide +kernel
theorem d_Mod_pass_13 : decode M_Mod_pass.2.1 13 = .ok (.aload_n 0, 1) := by decide +kernel
theorem d_Mod_pass_14 : decode M_Mod_pass.2.1 14 = .ok (.getfield 240, 3) := by decide +kernel
theorem d_Mod_pass_17 : decode M_Mod_pass.2.1 17 = .ok (.iload_n 1, 1) := by decide +kernel
theorem d_Mod_pass_18 : decode M_Mod_pass.2.1 18 = .ok (.iadd, 1) := by decide +kernel
theorem d_Mod_pass_19 : decode M_Mod_pass.2.1 19 = .ok (.sipush 9999, 3) := by decide +kernel
theorem d_Mod_pass_22 : decode M_Mod_pass.2.1 22 = .ok (.if_icmp .le 6, 3) := by decide +kernel
theorem d_Mod_pass_28 : decode M_Mod_pass.2.1 28 = .ok (.aload_n 0, 1) := by decide +kernel
theorem d_Mod_pass_29 : decode M_Mod_pass.2.1 29 = .ok (.dup, 1) := by decide +kernel
theorem d_Mod_pass_30 : decode M_Mod_pass.2.1 30 = .ok (.getfield 240, 3) := by decide +kernel
theorem d_Mod_pass_33 : decode M_Mod_pass.2.1 33 = .ok (.iload_n 1, 1) := by decide +kernel
theorem d_Mod_pass_34 : decode M_Mod_pass.2.1 34 = .ok (.iadd, 1) := by decide +kernel
theorem d_Mod_pass_35 : decode M_Mod_pass.2.1 35 = .ok (.putfield 240, 3) := by decide +kernel
theorem d_Mod_pass_38 : decode M_Mod_pass.2.1 38 = .ok (.aload_n 0, 1) := by decide +kernel
theorem d_Mod_pass_39 : decode M_Mod_pass.2.1 39 = .ok (.getfield 240, 3) := by decide +kernel
theorem d_Mod_pass_42 : decode M_Mod_pass.2.1 42 = .ok (.ireturn, 1) := by decide +kernel
theorem d_Mod_pass_25 : decode M_Mod_pass.2.1 25 = .ok (.bipush (-3), 2) := by decide +kernel
theorem d_Mod_pass_27 : decode M_Mod_pass.2.1 27 = .ok (.ireturn, 1) := by decide +kernel
theorem d_Mod_pass_10 : decode M_Mod_pass.2.1 10 = .ok (.bipush (-2), 2) := by decide +kernel
theorem d_Mod_pass_12 : decode M_Mod_pass.2.1 12 = .ok (.ireturn, 1) := by decide +kernel
def M_Mod_trader : XM := (⟨"HandshakeBindsModel", "trader", "(II)I"⟩, prog_11_method_6_code, 5, (some .int))
theorem d_Mod_trader_0 : decode M_Mod_trader.2.1 0 = .ok (.iload_n 1, 1) := by decide +kernel
theorem d_Mod_trader_1 : decode M_Mod_trader.2.1 1 = .ok (.iconst 0, 1) := by decide +kernel
theorem d_Mod_trader_2 : decode M_Mod_trader.2.1 2 = .ok (.bipush 6, 2) := by decide +kernel
theorem d_Mod_trader_4 : decode M_Mod_trader.2.1 4 = .ok (.invokestatic 114, 3) := by decide +kernel
theorem d_Mod_trader_7 : decode M_Mod_trader.2.1 7 = .ok (.ifCond .ne 5, 3) := by decide +kernel
theorem d_Mod_trader_12 : decode M_Mod_trader.2.1 12 = .ok (.iload_n 2, 1) := by decide +kernel
theorem d_Mod_trader_13 : decode M_Mod_trader.2.1 13 = .ok (.iconst 0, 1) := by decide +kernel
theorem d_Mod_trader_14 : decode M_Mod_trader.2.1 14 = .ok (.bipush 9, 2) := by decide +kernel
theorem d_Mod_trader_16 : decode M_Mod_trader.2.1 16 = .ok (.invokestatic 114, 3) := by decide +kernel
theorem d_Mod_trader_19 : decode M_Mod_trader.2.1 19 = .ok (.ifCond .ne 6, 3) := by decide +kernel
theorem d_Mod_trader_25 : decode M_Mod_trader.2.1 25 = .ok (.aload_n 0, 1) := by decide +kernel
theorem d_Mod_trader_26 : decode M_Mod_trader.2.1 26 = .ok (.getfield 111, 3) := by decide +kernel
theorem d_Mod_trader_29 : decode M_Mod_trader.2.1 29 = .ok (.bipush 6, 2) := by decide +kernel
theorem d_Mod_trader_31 : decode M_Mod_trader.2.1 31 = .ok (.if_icmp .ne 6, 3) := by decide +kernel
theorem d_Mod_trader_37 : decode M_Mod_trader.2.1 37 = .ok (.aload_n 0, 1) := by decide +kernel
theorem d_Mod_trader_38 : decode M_Mod_trader.2.1 38 = .ok (.getfield 111, 3) := by decide +kernel
theorem d_Mod_trader_41 : decode M_Mod_trader.2.1 41 = .ok (.istore_n 3, 1) := by decide +kernel
theorem d_Mod_trader_42 : decode M_Mod_trader.2.1 42 = .ok (.aload_n 0, 1) := by decide +kernel
theorem d_Mod_trader_43 : decode M_Mod_trader.2.1 43 = .ok (.getfield 9, 3) := by decide +kernel
theorem d_Mod_trader_46 : decode M_Mod_trader.2.1 46 = .ok (.iload_n 3, 1) := by decide +kernel
theorem d_Mod_trader_47 : decode M_Mod_trader.2.1 47 = .ok (.iload_n 1, 1) := by decide +kernel
theorem d_Mod_trader_48 : decode M_Mod_trader.2.1 48 = .ok (.iastore, 1) := by decide +kernel
theorem d_Mod_trader_49 : decode M_Mod_trader.2.1 49 = .ok (.aload_n 0, 1) := by decide +kernel
theorem d_Mod_trader_50 : decode M_Mod_trader.2.1 50 = .ok (.getfield 15, 3) := by decide +kernel
theorem d_Mod_trader_53 : decode M_Mod_trader.2.1 53 = .ok (.iload_n 3, 1) := by decide +kernel
theorem d_Mod_trader_54 : decode M_Mod_trader.2.1 54 = .ok (.iload_n 2, 1) := by decide +kernel
theorem d_Mod_trader_55 : decode M_Mod_trader.2.1 55 = .ok (.iastore, 1) := by decide +kernel
theorem d_Mod_trader_56 : decode M_Mod_trader.2.1 56 = .ok (.aload_n 0, 1) := by decide +kernel
theorem d_Mod_trader_57 : decode M_Mod_trader.2.1 57 = .ok (.getfield 18, 3) := by decide +kernel
theorem d_Mod_trader_60 : decode M_Mod_trader.2.1 60 = .ok (.iload_n 3, 1) := by decide +kernel
theorem d_Mod_trader_61 : decode M_Mod_trader.2.1 61 = .ok (.bipush 100, 2) := by decide +kernel
theorem d_Mod_trader_63 : decode M_Mod_trader.2.1 63 = .ok (.iastore, 1) := by decide +kernel
theorem d_Mod_trader_64 : decode M_Mod_trader.2.1 64 = .ok (.iconst 0, 1) := by decide +kernel
theorem d_Mod_trader_65 : decode M_Mod_trader.2.1 65 = .ok (.istore 4, 2) := by decide +kernel
theorem d_Mod_trader_67 : decode M_Mod_trader.2.1 67 = .ok (.iload 4, 2) := by decide +kernel
theorem d_Mod_trader_69 : decode M_Mod_trader.2.1 69 = .ok (.iconst 4, 1) := by decide +kernel
theorem d_Mod_trader_70 : decode M_Mod_trader.2.1 70 = .ok (.if_icmp .ge 21, 3) := by decide +kernel
theorem d_Mod_trader_91 : decode M_Mod_trader.2.1 91 = .ok (.iconst 0, 1) := by decide +kernel
theorem d_Mod_trader_92 : decode M_Mod_trader.2.1 92 = .ok (.istore 4, 2) := by decide +kernel
theorem d_Mod_trader_94 : decode M_Mod_trader.2.1 94 = .ok (.iload 4, 2) := by decide +kernel
theorem d_Mod_trader_96 : decode M_Mod_trader.2.1 96 = .ok (.bipush 6, 2) := by decide +kernel
theorem d_Mod_trader_98 : decode M_Mod_trader.2.1 98 = .ok (.if_icmp .ge 35, 3) := by decide +kernel
theorem d_Mod_trader_133 : decode M_Mod_trader.2.1 133 = .ok (.aload_n 0, 1) := by decide +kernel
theorem d_Mod_trader_134 : decode M_Mod_trader.2.1 134 = .ok (.dup, 1) := by decide +kernel
theorem d_Mod_trader_135 : decode M_Mod_trader.2.1 135 = .ok (.getfield 111, 3) := by decide +kernel
theorem d_Mod_trader_138 : decode M_Mod_trader.2.1 138 = .ok (.dup_x1, 1) := by decide +kernel
theorem d_Mod_trader_139 : decode M_Mod_trader.2.1 139 = .ok (.iconst 1, 1) := by decide +kernel
theorem d_Mod_trader_140 : decode M_Mod_trader.2.1 140 = .ok (.iadd, 1) := by decide +kernel
theorem d_Mod_trader_141 : decode M_Mod_trader.2.1 141 = .ok (.putfield 111, 3) := by decide +kernel
theorem d_Mod_trader_144 : decode M_Mod_trader.2.1 144 = .ok (.ireturn, 1) := by decide +kernel
theorem d_Mod_trader_101 : decode M_Mod_trader.2.1 101 = .ok (.aload_n 0, 1) := by decide +kernel
theorem d_Mod_trader_102 : decode M_Mod_trader.2.1 102 = .ok (.getfield 24, 3) := by decide +kernel
theorem d_Mod_trader_105 : decode M_Mod_trader.2.1 105 = .ok (.bipush 6, 2) := by decide +kernel
theorem d_Mod_trader_107 : decode M_Mod_trader.2.1 107 = .ok (.iload_n 3, 1) := by decide +kernel
theorem d_Mod_trader_108 : decode M_Mod_trader.2.1 108 = .ok (.imul, 1) := by decide +kernel
theorem d_Mod_trader_109 : decode M_Mod_trader.2.1 109 = .ok (.iload 4, 2) := by decide +kernel
theorem d_Mod_trader_111 : decode M_Mod_trader.2.1 111 = .ok (.iadd, 1) := by decide +kernel
theorem d_Mod_trader_112 : decode M_Mod_trader.2.1 112 = .ok (.iconst 0, 1) := by decide +kernel
theorem d_Mod_trader_113 : decode M_Mod_trader.2.1 113 = .ok (.iastore, 1) := by decide +kernel
theorem d_Mod_trader_114 : decode M_Mod_trader.2.1 114 = .ok (.aload_n 0, 1) := by decide +kernel
theorem d_Mod_trader_115 : decode M_Mod_trader.2.1 115 = .ok (.getfield 24, 3) := by decide +kernel
theorem d_Mod_trader_118 : decode M_Mod_trader.2.1 118 = .ok (.bipush 6, 2) := by decide +kernel
theorem d_Mod_trader_120 : decode M_Mod_trader.2.1 120 = .ok (.iload 4, 2) := by decide +kernel
theorem d_Mod_trader_122 : decode M_Mod_trader.2.1 122 = .ok (.imul, 1) := by decide +kernel
theorem d_Mod_trader_123 : decode M_Mod_trader.2.1 123 = .ok (.iload_n 3, 1) := by decide +kernel
theorem d_Mod_trader_124 : decode M_Mod_trader.2.1 124 = .ok (.iadd, 1) := by decide +kernel
theorem d_Mod_trader_125 : decode M_Mod_trader.2.1 125 = .ok (.iconst 0, 1) := by decide +kernel
theorem d_Mod_trader_126 : decode M_Mod_trader.2.1 126 = .ok (.iastore, 1) := by decide +kernel
theorem d_Mod_trader_127 : decode M_Mod_trader.2.1 127 = .ok (.iinc 4 1, 3) := by decide +kernel
theorem d_Mod_trader_130 : decode M_Mod_trader.2.1 130 = .ok (.goto (-36), 3) := by decide +kernel
theorem d_Mod_trader_73 : decode M_Mod_trader.2.1 73 = .ok (.aload_n 0, 1) := by decide +kernel
theorem d_Mod_trader_74 : decode M_Mod_trader.2.1 74 = .ok (.getfield 21, 3) := by decide +kernel
theorem d_Mod_trader_77 : decode M_Mod_trader.2.1 77 = .ok (.iconst 4, 1) := by decide +kernel
theorem d_Mod_trader_78 : decode M_Mod_trader.2.1 78 = .ok (.iload_n 3, 1) := by decide +kernel
theorem d_Mod_trader_79 : decode M_Mod_trader.2.1 79 = .ok (.imul, 1) := by decide +kernel
theorem d_Mod_trader_80 : decode M_Mod_trader.2.1 80 = .ok (.iload 4, 2) := by decide +kernel
theorem d_Mod_trader_82 : decode M_Mod_trader.2.1 82 = .ok (.iadd, 1) := by decide +kernel
theorem d_Mod_trader_83 : decode M_Mod_trader.2.1 83 = .ok (.iconst 0, 1) := by decide +kernel
theorem d_Mod_trader_84 : decode M_Mod_trader.2.1 84 = .ok (.iastore, 1) := by decide +kernel
theorem d_Mod_trader_85 : decode M_Mod_trader.2.1 85 = .ok (.iinc 4 1, 3) := by decide +kernel
theorem d_Mod_trader_88 : decode M_Mod_trader.2.1 88 = .ok (.goto (-21), 3) := by decide +kernel
theorem d_Mod_trader_34 : decode M_Mod_trader.2.1 34 = .ok (.bipush (-4), 2) := by decide +kernel
theorem d_Mod_trader_36 : decode M_Mod_trader.2.1 36 = .ok (.ireturn, 1) := by decide +kernel
theorem d_Mod_trader_22 : decode M_Mod_trader.2.1 22 = .ok (.bipush (-2), 2) := by decide +kernel
theorem d_Mod_trader_24 : decode M_Mod_trader.2.1 24 = .ok (.ireturn, 1) := by decide +kernel
theorem d_Mod_trader_10 : decode M_Mod_trader.2.1 10 = .ok (.iconst (-1), 1) := by decide +kernel
theorem d_Mod_trader_11 : decode M_Mod_trader.2.1 11 = .ok (.ireturn, 1) := by decide +kernel
def M_Mod_see : XM := (⟨"HandshakeBindsModel", "see", "(IIIII)I"⟩, prog_11_method_49_code, 6, (some .int))
theorem d_Mod_see_0 : decode M_Mod_see.2.1 0 = .ok (.iload_n 1, 1) := by decide +kernel
theorem d_Mod_see_1 : decode M_Mod_see.2.1 1 = .ok (.iconst (-1), 1) := by decide +kernel
theorem d_Mod_see_2 : decode M_Mod_see.2.1 2 = .ok (.if_icmp .ne 10, 3) := by decide +kernel
theorem d_Mod_see_12 : decode M_Mod_see.2.1 12 = .ok (.aload_n 0, 1) := by decide +kernel
theorem d_Mod_see_13 : decode M_Mod_see.2.1 13 = .ok (.iload_n 1, 1) := by decide +kernel
theorem d_Mod_see_14 : decode M_Mod_see.2.1 14 = .ok (.iload_n 2, 1) := by decide +kernel
theorem d_Mod_see_15 : decode M_Mod_see.2.1 15 = .ok (.invokevirtual 140, 3) := by decide +kernel
theorem d_Mod_see_18 : decode M_Mod_see.2.1 18 = .ok (.ifCond .ne 5, 3) := by decide +kernel
theorem d_Mod_see_23 : decode M_Mod_see.2.1 23 = .ok (.iload_n 1, 1) := by decide +kernel
theorem d_Mod_see_24 : decode M_Mod_see.2.1 24 = .ok (.iload_n 2, 1) := by decide +kernel
theorem d_Mod_see_25 : decode M_Mod_see.2.1 25 = .ok (.if_icmp .eq 33, 3) := by decide +kernel
theorem d_Mod_see_58 : decode M_Mod_see.2.1 58 = .ok (.bipush (-2), 2) := by decide +kernel
theorem d_Mod_see_60 : decode M_Mod_see.2.1 60 = .ok (.ireturn, 1) := by decide +kernel
theorem d_Mod_see_28 : decode M_Mod_see.2.1 28 = .ok (.iload_n 3, 1) := by decide +kernel
theorem d_Mod_see_29 : decode M_Mod_see.2.1 29 = .ok (.invokestatic 237, 3) := by decide +kernel
theorem ln_Mod_237 : Cond.methodLink "HandshakeBindsModel" 237 M_Mod_isSqueeze.1 ∈ TB := inTB 1160 (by decide +kernel) rfl
theorem lk_Mod_isSqueeze : LSt M_Mod_isSqueeze 1 := ⟨⟨inTB 72 (by decide +kernel) rfl, inTB 1162 (by decide +kernel) rfl, ⟨by decide, by decide, by decide +kernel⟩, by decide⟩, inTB 1161 (by decide +kernel) rfl⟩
theorem d_Mod_see_32 : decode M_Mod_see.2.1 32 = .ok (.ifCond .eq 26, 3) := by decide +kernel
theorem d_Mod_see_35 : decode M_Mod_see.2.1 35 = .ok (.iload 4, 2) := by decide +kernel
theorem d_Mod_see_37 : decode M_Mod_see.2.1 37 = .ok (.iconst 0, 1) := by decide +kernel
theorem d_Mod_see_38 : decode M_Mod_see.2.1 38 = .ok (.bipush 20, 2) := by decide +kernel
theorem d_Mod_see_40 : decode M_Mod_see.2.1 40 = .ok (.invokestatic 114, 3) := by decide +kernel
theorem d_Mod_see_43 : decode M_Mod_see.2.1 43 = .ok (.ifCond .eq 15, 3) := by decide +kernel
theorem d_Mod_see_46 : decode M_Mod_see.2.1 46 = .ok (.iload 5, 2) := by decide +kernel
theorem d_Mod_see_48 : decode M_Mod_see.2.1 48 = .ok (.iconst 0, 1) := by decide +kernel
theorem d_Mod_see_49 : decode M_Mod_see.2.1 49 = .ok (.sipush 999, 3) := by decide +kernel
theorem d_Mod_see_52 : decode M_Mod_see.2.1 52 = .ok (.invokestatic 114, 3) := by decide +kernel
theorem d_Mod_see_55 : decode M_Mod_see.2.1 55 = .ok (.ifCond .ne 6, 3) := by decide +kernel
theorem d_Mod_see_61 : decode M_Mod_see.2.1 61 = .ok (.aload_n 0, 1) := by decide +kernel
theorem d_Mod_see_62 : decode M_Mod_see.2.1 62 = .ok (.getfield 297, 3) := by decide +kernel
theorem d_Mod_see_65 : decode M_Mod_see.2.1 65 = .ok (.iconst 5, 1) := by decide +kernel
theorem d_Mod_see_66 : decode M_Mod_see.2.1 66 = .ok (.if_icmp .ne 6, 3) := by decide +kernel
theorem d_Mod_see_72 : decode M_Mod_see.2.1 72 = .ok (.aload_n 0, 1) := by decide +kernel
theorem d_Mod_see_73 : decode M_Mod_see.2.1 73 = .ok (.getfield 52, 3) := by decide +kernel
theorem d_Mod_see_76 : decode M_Mod_see.2.1 76 = .ok (.aload_n 0, 1) := by decide +kernel
theorem d_Mod_see_77 : decode M_Mod_see.2.1 77 = .ok (.getfield 297, 3) := by decide +kernel
theorem d_Mod_see_80 : decode M_Mod_see.2.1 80 = .ok (.iload_n 1, 1) := by decide +kernel
theorem d_Mod_see_81 : decode M_Mod_see.2.1 81 = .ok (.iastore, 1) := by decide +kernel
theorem d_Mod_see_82 : decode M_Mod_see.2.1 82 = .ok (.aload_n 0, 1) := by decide +kernel
theorem d_Mod_see_83 : decode M_Mod_see.2.1 83 = .ok (.getfield 55, 3) := by decide +kernel
theorem d_Mod_see_86 : decode M_Mod_see.2.1 86 = .ok (.aload_n 0, 1) := by decide +kernel
theorem d_Mod_see_87 : decode M_Mod_see.2.1 87 = .ok (.getfield 297, 3) := by decide +kernel
theorem d_Mod_see_90 : decode M_Mod_see.2.1 90 = .ok (.iload_n 2, 1) := by decide +kernel
theorem d_Mod_see_91 : decode M_Mod_see.2.1 91 = .ok (.iastore, 1) := by decide +kernel
theorem d_Mod_see_92 : decode M_Mod_see.2.1 92 = .ok (.aload_n 0, 1) := by decide +kernel
theorem d_Mod_see_93 : decode M_Mod_see.2.1 93 = .ok (.getfield 58, 3) := by decide +kernel
theorem d_Mod_see_96 : decode M_Mod_see.2.1 96 = .ok (.aload_n 0, 1) := by decide +kernel
theorem d_Mod_see_97 : decode M_Mod_see.2.1 97 = .ok (.getfield 297, 3) := by decide +kernel
theorem d_Mod_see_100 : decode M_Mod_see.2.1 100 = .ok (.iload_n 3, 1) := by decide +kernel
theorem d_Mod_see_101 : decode M_Mod_see.2.1 101 = .ok (.iastore, 1) := by decide +kernel
theorem d_Mod_see_102 : decode M_Mod_see.2.1 102 = .ok (.aload_n 0, 1) := by decide +kernel
theorem d_Mod_see_103 : decode M_Mod_see.2.1 103 = .ok (.getfield 61, 3) := by decide +kernel
theorem d_Mod_see_106 : decode M_Mod_see.2.1 106 = .ok (.aload_n 0, 1) := by decide +kernel
theorem d_Mod_see_107 : decode M_Mod_see.2.1 107 = .ok (.getfield 297, 3) := by decide +kernel
theorem d_Mod_see_110 : decode M_Mod_see.2.1 110 = .ok (.iload 4, 2) := by decide +kernel
theorem d_Mod_see_112 : decode M_Mod_see.2.1 112 = .ok (.iastore, 1) := by decide +kernel
theorem d_Mod_see_113 : decode M_Mod_see.2.1 113 = .ok (.aload_n 0, 1) := by decide +kernel
theorem d_Mod_see_114 : decode M_Mod_see.2.1 114 = .ok (.getfield 64, 3) := by decide +kernel
theorem d_Mod_see_117 : decode M_Mod_see.2.1 117 = .ok (.aload_n 0, 1) := by decide +kernel
theorem d_Mod_see_118 : decode M_Mod_see.2.1 118 = .ok (.dup, 1) := by decide +kernel
theorem d_Mod_see_119 : decode M_Mod_see.2.1 119 = .ok (.getfield 297, 3) := by decide +kernel
theorem d_Mod_see_122 : decode M_Mod_see.2.1 122 = .ok (.dup_x1, 1) := by decide +kernel
theorem d_Mod_see_123 : decode M_Mod_see.2.1 123 = .ok (.iconst 1, 1) := by decide +kernel
theorem d_Mod_see_124 : decode M_Mod_see.2.1 124 = .ok (.iadd, 1) := by decide +kernel
theorem d_Mod_see_125 : decode M_Mod_see.2.1 125 = .ok (.putfield 297, 3) := by decide +kernel
theorem d_Mod_see_128 : decode M_Mod_see.2.1 128 = .ok (.iload 5, 2) := by decide +kernel
theorem d_Mod_see_130 : decode M_Mod_see.2.1 130 = .ok (.iastore, 1) := by decide +kernel
theorem d_Mod_see_131 : decode M_Mod_see.2.1 131 = .ok (.aload_n 0, 1) := by decide +kernel
theorem d_Mod_see_132 : decode M_Mod_see.2.1 132 = .ok (.getfield 297, 3) := by decide +kernel
theorem d_Mod_see_135 : decode M_Mod_see.2.1 135 = .ok (.ireturn, 1) := by decide +kernel
theorem d_Mod_see_69 : decode M_Mod_see.2.1 69 = .ok (.bipush (-4), 2) := by decide +kernel
theorem d_Mod_see_71 : decode M_Mod_see.2.1 71 = .ok (.ireturn, 1) := by decide +kernel
theorem d_Mod_see_21 : decode M_Mod_see.2.1 21 = .ok (.iconst (-1), 1) := by decide +kernel
theorem d_Mod_see_22 : decode M_Mod_see.2.1 22 = .ok (.ireturn, 1) := by decide +kernel
theorem d_Mod_see_5 : decode M_Mod_see.2.1 5 = .ok (.aload_n 0, 1) := by decide +kernel
theorem d_Mod_see_6 : decode M_Mod_see.2.1 6 = .ok (.iconst 0, 1) := by decide +kernel
theorem d_Mod_see_7 : decode M_Mod_see.2.1 7 = .ok (.putfield 297, 3) := by decide +kernel
theorem d_Mod_see_10 : decode M_Mod_see.2.1 10 = .ok (.iconst 0, 1) := by decide +kernel
theorem d_Mod_see_11 : decode M_Mod_see.2.1 11 = .ok (.ireturn, 1) := by decide +kernel
def M_Mod_book : XM := (⟨"HandshakeBindsModel", "book", "(III)I"⟩, prog_11_method_60_code, 4, (some .int))
theorem d_Mod_book_0 : decode M_Mod_book.2.1 0 = .ok (.iload_n 1, 1) := by decide +kernel
theorem d_Mod_book_1 : decode M_Mod_book.2.1 1 = .ok (.iconst (-1), 1) := by decide +kernel
theorem d_Mod_book_2 : decode M_Mod_book.2.1 2 = .ok (.if_icmp .ne 10, 3) := by decide +kernel
theorem d_Mod_book_12 : decode M_Mod_book.2.1 12 = .ok (.aload_n 0, 1) := by decide +kernel
theorem d_Mod_book_13 : decode M_Mod_book.2.1 13 = .ok (.iload_n 1, 1) := by decide +kernel
theorem d_Mod_book_14 : decode M_Mod_book.2.1 14 = .ok (.iload_n 2, 1) := by decide +kernel
theorem d_Mod_book_15 : decode M_Mod_book.2.1 15 = .ok (.invokevirtual 140, 3) := by decide +kernel
theorem d_Mod_book_18 : decode M_Mod_book.2.1 18 = .ok (.ifCond .ne 5, 3) := by decide +kernel
theorem d_Mod_book_23 : decode M_Mod_book.2.1 23 = .ok (.iload_n 1, 1) := by decide +kernel
theorem d_Mod_book_24 : decode M_Mod_book.2.1 24 = .ok (.iload_n 2, 1) := by decide +kernel
theorem d_Mod_book_25 : decode M_Mod_book.2.1 25 = .ok (.if_icmp .eq 14, 3) := by decide +kernel
theorem d_Mod_book_39 : decode M_Mod_book.2.1 39 = .ok (.bipush (-2), 2) := by decide +kernel
theorem d_Mod_book_41 : decode M_Mod_book.2.1 41 = .ok (.ireturn, 1) := by decide +kernel
theorem d_Mod_book_28 : decode M_Mod_book.2.1 28 = .ok (.iload_n 3, 1) := by decide +kernel
theorem d_Mod_book_29 : decode M_Mod_book.2.1 29 = .ok (.iconst 0, 1) := by decide +kernel
theorem d_Mod_book_30 : decode M_Mod_book.2.1 30 = .ok (.sipush 9999, 3) := by decide +kernel
theorem d_Mod_book_33 : decode M_Mod_book.2.1 33 = .ok (.invokestatic 114, 3) := by decide +kernel
theorem d_Mod_book_36 : decode M_Mod_book.2.1 36 = .ok (.ifCond .ne 6, 3) := by decide +kernel
theorem d_Mod_book_42 : decode M_Mod_book.2.1 42 = .ok (.aload_n 0, 1) := by decide +kernel
theorem d_Mod_book_43 : decode M_Mod_book.2.1 43 = .ok (.getfield 319, 3) := by decide +kernel
theorem d_Mod_book_46 : decode M_Mod_book.2.1 46 = .ok (.bipush 8, 2) := by decide +kernel
theorem d_Mod_book_48 : decode M_Mod_book.2.1 48 = .ok (.if_icmp .ne 6, 3) := by decide +kernel
theorem d_Mod_book_54 : decode M_Mod_book.2.1 54 = .ok (.aload_n 0, 1) := by decide +kernel
theorem d_Mod_book_55 : decode M_Mod_book.2.1 55 = .ok (.getfield 73, 3) := by decide +kernel
theorem d_Mod_book_58 : decode M_Mod_book.2.1 58 = .ok (.aload_n 0, 1) := by decide +kernel
theorem d_Mod_book_59 : decode M_Mod_book.2.1 59 = .ok (.getfield 319, 3) := by decide +kernel
theorem d_Mod_book_62 : decode M_Mod_book.2.1 62 = .ok (.iload_n 1, 1) := by decide +kernel
theorem d_Mod_book_63 : decode M_Mod_book.2.1 63 = .ok (.iastore, 1) := by decide +kernel
theorem d_Mod_book_64 : decode M_Mod_book.2.1 64 = .ok (.aload_n 0, 1) := by decide +kernel
theorem d_Mod_book_65 : decode M_Mod_book.2.1 65 = .ok (.getfield 76, 3) := by decide +kernel
theorem d_Mod_book_68 : decode M_Mod_book.2.1 68 = .ok (.aload_n 0, 1) := by decide +kernel
theorem d_Mod_book_69 : decode M_Mod_book.2.1 69 = .ok (.getfield 319, 3) := by decide +kernel
theorem d_Mod_book_72 : decode M_Mod_book.2.1 72 = .ok (.iload_n 2, 1) := by decide +kernel
theorem d_Mod_book_73 : decode M_Mod_book.2.1 73 = .ok (.iastore, 1) := by decide +kernel
theorem d_Mod_book_74 : decode M_Mod_book.2.1 74 = .ok (.aload_n 0, 1) := by decide +kernel
theorem d_Mod_book_75 : decode M_Mod_book.2.1 75 = .ok (.getfield 79, 3) := by decide +kernel
theorem d_Mod_book_78 : decode M_Mod_book.2.1 78 = .ok (.aload_n 0, 1) := by decide +kernel
theorem d_Mod_book_79 : decode M_Mod_book.2.1 79 = .ok (.dup, 1) := by decide +kernel
theorem d_Mod_book_80 : decode M_Mod_book.2.1 80 = .ok (.getfield 319, 3) := by decide +kernel
theorem d_Mod_book_83 : decode M_Mod_book.2.1 83 = .ok (.dup_x1, 1) := by decide +kernel
theorem d_Mod_book_84 : decode M_Mod_book.2.1 84 = .ok (.iconst 1, 1) := by decide +kernel
theorem d_Mod_book_85 : decode M_Mod_book.2.1 85 = .ok (.iadd, 1) := by decide +kernel
theorem d_Mod_book_86 : decode M_Mod_book.2.1 86 = .ok (.putfield 319, 3) := by decide +kernel
theorem d_Mod_book_89 : decode M_Mod_book.2.1 89 = .ok (.iload_n 3, 1) := by decide +kernel
theorem d_Mod_book_90 : decode M_Mod_book.2.1 90 = .ok (.iastore, 1) := by decide +kernel
theorem d_Mod_book_91 : decode M_Mod_book.2.1 91 = .ok (.aload_n 0, 1) := by decide +kernel
theorem d_Mod_book_92 : decode M_Mod_book.2.1 92 = .ok (.getfield 319, 3) := by decide +kernel
theorem d_Mod_book_95 : decode M_Mod_book.2.1 95 = .ok (.ireturn, 1) := by decide +kernel
theorem d_Mod_book_51 : decode M_Mod_book.2.1 51 = .ok (.bipush (-4), 2) := by decide +kernel
theorem d_Mod_book_53 : decode M_Mod_book.2.1 53 = .ok (.ireturn, 1) := by decide +kernel
theorem d_Mod_book_21 : decode M_Mod_book.2.1 21 = .ok (.iconst (-1), 1) := by decide +kernel
theorem d_Mod_book_22 : decode M_Mod_book.2.1 22 = .ok (.ireturn, 1) := by decide +kernel
theorem d_Mod_book_5 : decode M_Mod_book.2.1 5 = .ok (.aload_n 0, 1) := by decide +kernel
theorem d_Mod_book_6 : decode M_Mod_book.2.1 6 = .ok (.iconst 0, 1) := by decide +kernel
theorem d_Mod_book_7 : decode M_Mod_book.2.1 7 = .ok (.putfield 319, 3) := by decide +kernel
theorem d_Mod_book_10 : decode M_Mod_book.2.1 10 = .ok (.iconst 0, 1) := by decide +kernel
theorem d_Mod_book_11 : decode M_Mod_book.2.1 11 = .ok (.ireturn, 1) := by decide +kernel
def M_Mod_plan : XM := (⟨"HandshakeBindsModel", "plan", "(II)I"⟩, prog_11_method_57_code, 3, (some .int))
theorem d_Mod_plan_0 : decode M_Mod_plan.2.1 0 = .ok (.iload_n 1, 1) := by decide +kernel
theorem d_Mod_plan_1 : decode M_Mod_plan.2.1 1 = .ok (.iconst (-1), 1) := by decide +kernel
theorem d_Mod_plan_2 : decode M_Mod_plan.2.1 2 = .ok (.if_icmp .ne 10, 3) := by decide +kernel
theorem d_Mod_plan_12 : decode M_Mod_plan.2.1 12 = .ok (.iload_n 1, 1) := by decide +kernel
theorem d_Mod_plan_13 : decode M_Mod_plan.2.1 13 = .ok (.iconst 0, 1) := by decide +kernel
theorem d_Mod_plan_14 : decode M_Mod_plan.2.1 14 = .ok (.iconst 3, 1) := by decide +kernel
theorem d_Mod_plan_15 : decode M_Mod_plan.2.1 15 = .ok (.invokestatic 114, 3) := by decide +kernel
theorem d_Mod_plan_18 : decode M_Mod_plan.2.1 18 = .ok (.ifCond .eq 15, 3) := by decide +kernel
theorem d_Mod_plan_33 : decode M_Mod_plan.2.1 33 = .ok (.iconst (-1), 1) := by decide +kernel
theorem d_Mod_plan_34 : decode M_Mod_plan.2.1 34 = .ok (.ireturn, 1) := by decide +kernel
theorem d_Mod_plan_21 : decode M_Mod_plan.2.1 21 = .ok (.iload_n 1, 1) := by decide +kernel
theorem d_Mod_plan_22 : decode M_Mod_plan.2.1 22 = .ok (.ifCond .le 13, 3) := by decide +kernel
theorem d_Mod_plan_35 : decode M_Mod_plan.2.1 35 = .ok (.aload_n 0, 1) := by decide +kernel
theorem d_Mod_plan_36 : decode M_Mod_plan.2.1 36 = .ok (.getfield 312, 3) := by decide +kernel
theorem d_Mod_plan_39 : decode M_Mod_plan.2.1 39 = .ok (.bipush 10, 2) := by decide +kernel
theorem d_Mod_plan_41 : decode M_Mod_plan.2.1 41 = .ok (.if_icmp .ne 6, 3) := by decide +kernel
theorem d_Mod_plan_47 : decode M_Mod_plan.2.1 47 = .ok (.aload_n 0, 1) := by decide +kernel
theorem d_Mod_plan_48 : decode M_Mod_plan.2.1 48 = .ok (.getfield 67, 3) := by decide +kernel
theorem d_Mod_plan_51 : decode M_Mod_plan.2.1 51 = .ok (.aload_n 0, 1) := by decide +kernel
theorem d_Mod_plan_52 : decode M_Mod_plan.2.1 52 = .ok (.getfield 312, 3) := by decide +kernel
theorem d_Mod_plan_55 : decode M_Mod_plan.2.1 55 = .ok (.iload_n 1, 1) := by decide +kernel
theorem d_Mod_plan_56 : decode M_Mod_plan.2.1 56 = .ok (.iastore, 1) := by decide +kernel
theorem d_Mod_plan_57 : decode M_Mod_plan.2.1 57 = .ok (.aload_n 0, 1) := by decide +kernel
theorem d_Mod_plan_58 : decode M_Mod_plan.2.1 58 = .ok (.getfield 70, 3) := by decide +kernel
theorem d_Mod_plan_61 : decode M_Mod_plan.2.1 61 = .ok (.aload_n 0, 1) := by decide +kernel
theorem d_Mod_plan_62 : decode M_Mod_plan.2.1 62 = .ok (.dup, 1) := by decide +kernel
theorem d_Mod_plan_63 : decode M_Mod_plan.2.1 63 = .ok (.getfield 312, 3) := by decide +kernel
theorem d_Mod_plan_66 : decode M_Mod_plan.2.1 66 = .ok (.dup_x1, 1) := by decide +kernel
theorem d_Mod_plan_67 : decode M_Mod_plan.2.1 67 = .ok (.iconst 1, 1) := by decide +kernel
theorem d_Mod_plan_68 : decode M_Mod_plan.2.1 68 = .ok (.iadd, 1) := by decide +kernel
theorem d_Mod_plan_69 : decode M_Mod_plan.2.1 69 = .ok (.putfield 312, 3) := by decide +kernel
theorem d_Mod_plan_72 : decode M_Mod_plan.2.1 72 = .ok (.iload_n 1, 1) := by decide +kernel
theorem d_Mod_plan_73 : decode M_Mod_plan.2.1 73 = .ok (.ifCond .ne 7, 3) := by decide +kernel
theorem d_Mod_plan_76 : decode M_Mod_plan.2.1 76 = .ok (.iconst 0, 1) := by decide +kernel
theorem d_Mod_plan_77 : decode M_Mod_plan.2.1 77 = .ok (.goto 4, 3) := by decide +kernel
theorem d_Mod_plan_81 : decode M_Mod_plan.2.1 81 = .ok (.iastore, 1) := by decide +kernel
theorem d_Mod_plan_82 : decode M_Mod_plan.2.1 82 = .ok (.aload_n 0, 1) := by decide +kernel
theorem d_Mod_plan_83 : decode M_Mod_plan.2.1 83 = .ok (.getfield 312, 3) := by decide +kernel
theorem d_Mod_plan_86 : decode M_Mod_plan.2.1 86 = .ok (.ireturn, 1) := by decide +kernel
theorem d_Mod_plan_44 : decode M_Mod_plan.2.1 44 = .ok (.bipush (-4), 2) := by decide +kernel
theorem d_Mod_plan_46 : decode M_Mod_plan.2.1 46 = .ok (.ireturn, 1) := by decide +kernel
theorem d_Mod_plan_25 : decode M_Mod_plan.2.1 25 = .ok (.aload_n 0, 1) := by decide +kernel
theorem d_Mod_plan_26 : decode M_Mod_plan.2.1 26 = .ok (.iload_n 2, 1) := by decide +kernel
theorem d_Mod_plan_27 : decode M_Mod_plan.2.1 27 = .ok (.invokevirtual 118, 3) := by decide +kernel
theorem d_Mod_plan_30 : decode M_Mod_plan.2.1 30 = .ok (.ifCond .ne 5, 3) := by decide +kernel
theorem d_Mod_plan_80 : decode M_Mod_plan.2.1 80 = .ok (.iload_n 2, 1) := by decide +kernel
theorem d_Mod_plan_5 : decode M_Mod_plan.2.1 5 = .ok (.aload_n 0, 1) := by decide +kernel
theorem d_Mod_plan_6 : decode M_Mod_plan.2.1 6 = .ok (.iconst 0, 1) := by decide +kernel
theorem d_Mod_plan_7 : decode M_Mod_plan.2.1 7 = .ok (.putfield 312, 3) := by decide +kernel
theorem d_Mod_plan_10 : decode M_Mod_plan.2.1 10 = .ok (.iconst 0, 1) := by decide +kernel
theorem d_Mod_plan_11 : decode M_Mod_plan.2.1 11 = .ok (.ireturn, 1) := by decide +kernel
theorem c_Mod_ring (X : Xn) (a ν : Nat → Nat) (σ : Nat → Nat → Int32) (τ : Nat → Int64) (hn6 : ν 0 ≤ 6) : Does X 9 M_Mod_ring [.ref (a 0)] (MW X a ν σ τ) 0 0 (fun (vv : Option Value) (ww : va_W) => vv = some (.int (ringA (ν 0) (σ 5) (ν 0))) ∧ ww = MW X a ν σ τ) := by
  generalize hQ : (fun (vv : Option Value) (ww : va_W) => vv = some (.int (ringA (ν 0) (σ 5) (ν 0))) ∧ ww = MW X a ν σ τ) = Q
  refine Does.go rfl (Nat.le_of_ble_eq_true rfl) [some (.ref (a 0)), none, none] 2 rfl ?_
  refine r_iconst (nI 0) rfl 1 rfl d_Mod_ring_0 ?_
  refine r_istore_n (ls2 := [some (.ref (a 0)), some (.int (nI 0)), none]) 2 rfl d_Mod_ring_1 (by decide) rfl rfl ?_
  refine r_iconst (nI 0) rfl 3 rfl d_Mod_ring_2 ?_
  refine r_istore_n (ls2 := [some (.ref (a 0)), some (.int (nI 0)), some (.int (nI 0))]) 4 rfl d_Mod_ring_3 (by decide) rfl rfl ?_
  have L4_1 : ∀ (f : Nat) (k : Nat), (k ≤ ν 0) → ν 0 - k < f → Runs X 9 M_Mod_ring 0 0 Q 4 [some (.ref (a 0)), some (.int (ringA (ν 0) (σ 5) k)), some (.int (nI k))] [] 0 0 (MW X a ν σ τ) := by
    intro f
    induction f with
    | zero => intro k hk hmu; exact absurd hmu (Nat.not_lt_zero _)
    | succ f ih2 =>
      intro k hk hmu
      refine r_iload_n rfl 5 rfl d_Mod_ring_4 ?_
      refine r_aload_n rfl 6 rfl d_Mod_ring_5 ?_
      refine r_getf (v := .int (nI (ν 0))) gf_Mod_111 0 rfl rfl 9 rfl d_Mod_ring_6 ?_
      refine r_icmp_geN k (ν 0) (by omega) (by omega) 12 33 rfl rfl d_Mod_ring_9 (fun h9 => ?_) (fun h9 => ?_)
      · refine r_iload_n rfl 34 rfl d_Mod_ring_33 ?_
        exact r_iret rfl (Nat.zero_le _) (Nat.zero_le _) d_Mod_ring_34 (by rw [← hQ]; exact ⟨by rw [show k = ν 0 by omega], rfl⟩)
      · refine r_iload_n rfl 13 rfl d_Mod_ring_12 ?_
        refine r_aload_n rfl 14 rfl d_Mod_ring_13 ?_
        refine r_iload_n rfl 15 rfl d_Mod_ring_14 ?_
        refine r_iload_n rfl 16 rfl d_Mod_ring_15 ?_
        refine r_iconst (nI 1) rfl 17 rfl d_Mod_ring_16 ?_
        refine r_iload_n rfl 18 rfl d_Mod_ring_17 ?_
        refine r_ishl 19 rfl d_Mod_ring_18 ?_
        refine r_topi (nI (1 <<< k)) (nI_shl (by omega) (one_shl (by omega))) ?_
        refine r_iconst (nI 1) rfl 20 rfl d_Mod_ring_19 ?_
        refine r_callVA1 (st2 := [.int (rf (ν 0) (σ 5) k 7 k (1 <<< k) 1), .int (ringA (ν 0) (σ 5) k)]) (w2 := MW X a ν σ τ) lk_Mod_ringFrom ln_Mod_276 (c_Mod_ringFrom X a ν σ τ hn6 k (by omega) 7 k (1 <<< k) 1 (by omega) (shl_lt6 (by omega)) (Nat.lt_of_le_of_lt (cz_le _) (by decide)) (by decide)) (by first | decide | omega) rfl rfl (Nat.le_of_ble_eq_true rfl) (Nat.le_of_ble_eq_true rfl) (Nat.le_of_ble_eq_true rfl) 0 rfl rfl rfl rfl 23 rfl d_Mod_ring_20 ?_
        refine r_mmax (inTB 1235 (by decide +kernel) rfl) (by first | decide | omega) (Nat.le_of_ble_eq_true rfl) (Nat.le_of_ble_eq_true rfl) (Nat.le_of_ble_eq_true rfl) 26 rfl d_Mod_ring_23 ?_
        refine r_istore_n (ls2 := [some (.ref (a 0)), some (.int (if (ringA (ν 0) (σ 5) k) < (rf (ν 0) (σ 5) k 7 k (1 <<< k) 1) then (rf (ν 0) (σ 5) k 7 k (1 <<< k) 1) else (ringA (ν 0) (σ 5) k))), some (.int (nI k))]) 27 rfl d_Mod_ring_26 (by decide) rfl rfl ?_
        refine r_iinc (ls2 := [some (.ref (a 0)), some (.int (if (ringA (ν 0) (σ 5) k) < (rf (ν 0) (σ 5) k 7 k (1 <<< k) 1) then (rf (ν 0) (σ 5) k 7 k (1 <<< k) 1) else (ringA (ν 0) (σ 5) k))), some (.int (nI (k + 1)))]) (nI (k + 1)) rfl (nI_1 _) 30 rfl d_Mod_ring_27 (by decide) rfl rfl ?_
        refine r_goto 4 rfl d_Mod_ring_30 ?_
        exact ih2 (k + 1) (by omega) (by omega)
  exact L4_1 _ 0 (by omega) (Nat.lt_succ_self _)
theorem c_Mod_offset (X : Xn) (a ν : Nat → Nat) (σ : Nat → Nat → Int32) (τ : Nat → Int64) (hn6 : ν 0 ≤ 6) : Does X 2 M_Mod_offset [.ref (a 0)] (MW X a ν σ τ) 0 0 (fun (vv : Option Value) (ww : va_W) => vv = some (.int (offO (ν 0) (σ 5) (ν 0))) ∧ ww = MW X a ν σ τ) := by
  generalize hQ : (fun (vv : Option Value) (ww : va_W) => vv = some (.int (offO (ν 0) (σ 5) (ν 0))) ∧ ww = MW X a ν σ τ) = Q
  refine Does.go rfl (Nat.le_of_ble_eq_true rfl) [some (.ref (a 0)), none, none, none] 3 rfl ?_
  refine r_iconst (nI 0) rfl 1 rfl d_Mod_offset_0 ?_
  refine r_istore_n (ls2 := [some (.ref (a 0)), some (.int (nI 0)), none, none]) 2 rfl d_Mod_offset_1 (by decide) rfl rfl ?_
  refine r_iconst (nI 0) rfl 3 rfl d_Mod_offset_2 ?_
  refine r_istore_n (ls2 := [some (.ref (a 0)), some (.int (nI 0)), some (.int (nI 0)), none]) 4 rfl d_Mod_offset_3 (by decide) rfl rfl ?_
  have L4_1 : ∀ (f : Nat) (p : Nat), (p ≤ ν 0) → ν 0 - p < f → Runs X 2 M_Mod_offset 0 0 Q 4 [some (.ref (a 0)), some (.int (offO (ν 0) (σ 5) p)), some (.int (nI p)), none] [] 0 0 (MW X a ν σ τ) := by
    intro f
    induction f with
    | zero => intro p hp hmu; exact absurd hmu (Nat.not_lt_zero _)
    | succ f ih2 =>
      intro p hp hmu
      refine r_iload_n rfl 5 rfl d_Mod_offset_4 ?_
      refine r_aload_n rfl 6 rfl d_Mod_offset_5 ?_
      refine r_getf (v := .int (nI (ν 0))) gf_Mod_111 0 rfl rfl 9 rfl d_Mod_offset_6 ?_
      refine r_icmp_geN p (ν 0) (by omega) (by omega) 12 65 rfl rfl d_Mod_offset_9 (fun h9 => ?_) (fun h9 => ?_)
      · refine r_iload_n rfl 66 rfl d_Mod_offset_65 ?_
        exact r_iret rfl (Nat.zero_le _) (Nat.zero_le _) d_Mod_offset_66 (by rw [← hQ]; exact ⟨by rw [show p = ν 0 by omega], rfl⟩)
      · refine r_iload_n rfl 13 rfl d_Mod_offset_12 ?_
        refine r_iconst (nI 1) rfl 14 rfl d_Mod_offset_13 ?_
        refine r_iadd 15 rfl d_Mod_offset_14 ?_
        refine r_topi (nI (p + 1)) (nI_add _ _) ?_
        refine r_istore_n (ls2 := [some (.ref (a 0)), some (.int (offO (ν 0) (σ 5) p)), some (.int (nI p)), some (.int (nI (p + 1)))]) 16 rfl d_Mod_offset_15 (by decide) rfl rfl ?_
        have L16_3 : ∀ (f : Nat) (j : Nat), (p + 1 + j ≤ ν 0) → ν 0 - (p + 1 + j) < f → Runs X 2 M_Mod_offset 0 0 Q 16 [some (.ref (a 0)), some (.int (offI (σ 5) p (offO (ν 0) (σ 5) p) j)), some (.int (nI p)), some (.int (nI (p + 1 + j)))] [] 0 0 (MW X a ν σ τ) := by
          intro f
          induction f with
          | zero => intro j hj hmu; exact absurd hmu (Nat.not_lt_zero _)
          | succ f ih4 =>
            intro j hj hmu
            refine r_iload_n rfl 17 rfl d_Mod_offset_16 ?_
            refine r_aload_n rfl 18 rfl d_Mod_offset_17 ?_
            refine r_getf (v := .int (nI (ν 0))) gf_Mod_111 0 rfl rfl 21 rfl d_Mod_offset_18 ?_
            refine r_icmp_geN (p + 1 + j) (ν 0) (by omega) (by omega) 24 59 rfl rfl d_Mod_offset_21 (fun h21 => ?_) (fun h21 => ?_)
            · refine r_iinc (ls2 := [some (.ref (a 0)), some (.int (offI (σ 5) p (offO (ν 0) (σ 5) p) j)), some (.int (nI (p + 1))), some (.int (nI (p + 1 + j)))]) (nI (p + 1)) rfl (nI_1 _) 62 rfl d_Mod_offset_59 (by decide) rfl rfl ?_
              refine r_goto 4 rfl d_Mod_offset_62 ?_
              refine r_forget (ls2 := [some (.ref (a 0)), some (.int (offI (σ 5) p (offO (ν 0) (σ 5) p) j)), some (.int (nI (p + 1))), none]) 3 rfl ?_
              refine Runs.cast (ih2 (p + 1) (by omega) (by omega)) (by rw [show j = ν 0 - (p + 1) by omega]; try rfl) rfl (rfl)
            · refine r_iload_n rfl 25 rfl d_Mod_offset_24 ?_
              refine r_aload_n rfl 26 rfl d_Mod_offset_25 ?_
              refine r_getf (v := .ref (a 5)) gf_Mod_24 0 rfl rfl 29 rfl d_Mod_offset_26 ?_
              refine r_bipush (nI 6) rfl 31 rfl d_Mod_offset_29 ?_
              refine r_iload_n rfl 32 rfl d_Mod_offset_31 ?_
              refine r_imul 33 rfl d_Mod_offset_32 ?_
              refine r_topi (nI (6 * p)) (pk_mul _ _) ?_
              refine r_iload_n rfl 34 rfl d_Mod_offset_33 ?_
              refine r_iadd 35 rfl d_Mod_offset_34 ?_
              refine r_topi (nI ((6 * p) + (p + 1 + j))) (nI_add _ _) ?_
              refine r_iald 5 rfl ((6 * p) + (p + 1 + j)) rfl (by omega) (by omega) 36 rfl d_Mod_offset_35 ?_
              refine r_aload_n rfl 37 rfl d_Mod_offset_36 ?_
              refine r_getf (v := .ref (a 5)) gf_Mod_24 0 rfl rfl 40 rfl d_Mod_offset_37 ?_
              refine r_bipush (nI 6) rfl 42 rfl d_Mod_offset_40 ?_
              refine r_iload_n rfl 43 rfl d_Mod_offset_42 ?_
              refine r_imul 44 rfl d_Mod_offset_43 ?_
              refine r_topi (nI (6 * (p + 1 + j))) (pk_mul _ _) ?_
              refine r_iload_n rfl 45 rfl d_Mod_offset_44 ?_
              refine r_iadd 46 rfl d_Mod_offset_45 ?_
              refine r_topi (nI ((6 * (p + 1 + j)) + p)) (nI_add _ _) ?_
              refine r_iald 5 rfl ((6 * (p + 1 + j)) + p) rfl (by omega) (by omega) 47 rfl d_Mod_offset_46 ?_
              refine r_isub 48 rfl d_Mod_offset_47 ?_
              refine r_mabs (inTB 1248 (by decide +kernel) rfl) (by first | decide | omega) (Nat.le_of_ble_eq_true rfl) (Nat.le_of_ble_eq_true rfl) (Nat.le_of_ble_eq_true rfl) 51 rfl d_Mod_offset_48 ?_
              refine r_iadd 52 rfl d_Mod_offset_51 ?_
              refine r_istore_n (ls2 := [some (.ref (a 0)), some (.int ((offI (σ 5) p (offO (ν 0) (σ 5) p) j) + (if 0 ≤ ((σ 5 ((6 * p) + (p + 1 + j))) - (σ 5 ((6 * (p + 1 + j)) + p))) then ((σ 5 ((6 * p) + (p + 1 + j))) - (σ 5 ((6 * (p + 1 + j)) + p))) else 0 - ((σ 5 ((6 * p) + (p + 1 + j))) - (σ 5 ((6 * (p + 1 + j)) + p)))))), some (.int (nI p)), some (.int (nI (p + 1 + j)))]) 53 rfl d_Mod_offset_52 (by decide) rfl rfl ?_
              refine r_iinc (ls2 := [some (.ref (a 0)), some (.int ((offI (σ 5) p (offO (ν 0) (σ 5) p) j) + (if 0 ≤ ((σ 5 ((6 * p) + (p + 1 + j))) - (σ 5 ((6 * (p + 1 + j)) + p))) then ((σ 5 ((6 * p) + (p + 1 + j))) - (σ 5 ((6 * (p + 1 + j)) + p))) else 0 - ((σ 5 ((6 * p) + (p + 1 + j))) - (σ 5 ((6 * (p + 1 + j)) + p)))))), some (.int (nI p)), some (.int (nI ((p + 1 + j) + 1)))]) (nI ((p + 1 + j) + 1)) rfl (nI_1 _) 56 rfl d_Mod_offset_53 (by decide) rfl rfl ?_
              refine r_goto 16 rfl d_Mod_offset_56 ?_
              exact ih4 (j + 1) (by omega) (by omega)
        exact L16_3 _ 0 (by omega) (Nat.lt_succ_self _)
  exact L4_1 _ 0 (by omega) (Nat.lt_succ_self _)
theorem c_Mod_allDebt (X : Xn) (a ν : Nat → Nat) (σ : Nat → Nat → Int32) (τ : Nat → Int64) (hn6 : ν 0 ≤ 6) : Does X 2 M_Mod_allDebt [.ref (a 0)] (MW X a ν σ τ) 0 0 (fun (vv : Option Value) (ww : va_W) => vv = some (.int (osumAll (ν 0) (σ 5) (ν 0))) ∧ ww = MW X a ν σ τ) := by
  generalize hQ : (fun (vv : Option Value) (ww : va_W) => vv = some (.int (osumAll (ν 0) (σ 5) (ν 0))) ∧ ww = MW X a ν σ τ) = Q
  refine Does.go rfl (Nat.le_of_ble_eq_true rfl) [some (.ref (a 0)), none, none] 2 rfl ?_
  refine r_iconst (nI 0) rfl 1 rfl d_Mod_allDebt_0 ?_
  refine r_istore_n (ls2 := [some (.ref (a 0)), some (.int (nI 0)), none]) 2 rfl d_Mod_allDebt_1 (by decide) rfl rfl ?_
  refine r_iconst (nI 0) rfl 3 rfl d_Mod_allDebt_2 ?_
  refine r_istore_n (ls2 := [some (.ref (a 0)), some (.int (nI 0)), some (.int (nI 0))]) 4 rfl d_Mod_allDebt_3 (by decide) rfl rfl ?_
  have L4_1 : ∀ (f : Nat) (k : Nat), (k ≤ ν 0) → ν 0 - k < f → Runs X 2 M_Mod_allDebt 0 0 Q 4 [some (.ref (a 0)), some (.int (osumAll (ν 0) (σ 5) k)), some (.int (nI k))] [] 0 0 (MW X a ν σ τ) := by
    intro f
    induction f with
    | zero => intro k hk hmu; exact absurd hmu (Nat.not_lt_zero _)
    | succ f ih2 =>
      intro k hk hmu
      refine r_iload_n rfl 5 rfl d_Mod_allDebt_4 ?_
      refine r_aload_n rfl 6 rfl d_Mod_allDebt_5 ?_
      refine r_getf (v := .int (nI (ν 0))) gf_Mod_111 0 rfl rfl 9 rfl d_Mod_allDebt_6 ?_
      refine r_icmp_geN k (ν 0) (by omega) (by omega) 12 26 rfl rfl d_Mod_allDebt_9 (fun h9 => ?_) (fun h9 => ?_)
      · refine r_iload_n rfl 27 rfl d_Mod_allDebt_26 ?_
        exact r_iret rfl (Nat.zero_le _) (Nat.zero_le _) d_Mod_allDebt_27 (by rw [← hQ]; exact ⟨by rw [show k = ν 0 by omega], rfl⟩)
      · refine r_iload_n rfl 13 rfl d_Mod_allDebt_12 ?_
        refine r_aload_n rfl 14 rfl d_Mod_allDebt_13 ?_
        refine r_iload_n rfl 15 rfl d_Mod_allDebt_14 ?_
        refine r_callVA1 (st2 := [.int (osum (σ 5) k (ν 0)), .int (osumAll (ν 0) (σ 5) k)]) (w2 := MW X a ν σ τ) lk_Mod_owes ln_Mod_126 (c_Mod_owes X a ν σ τ (by first | omega | exact hn6) k (by omega)) (by first | decide | omega) rfl rfl (Nat.le_of_ble_eq_true rfl) (Nat.le_of_ble_eq_true rfl) (Nat.le_of_ble_eq_true rfl) 0 rfl rfl rfl rfl 18 rfl d_Mod_allDebt_15 ?_
        refine r_iadd 19 rfl d_Mod_allDebt_18 ?_
        refine r_istore_n (ls2 := [some (.ref (a 0)), some (.int ((osumAll (ν 0) (σ 5) k) + (osum (σ 5) k (ν 0)))), some (.int (nI k))]) 20 rfl d_Mod_allDebt_19 (by decide) rfl rfl ?_
        refine r_iinc (ls2 := [some (.ref (a 0)), some (.int ((osumAll (ν 0) (σ 5) k) + (osum (σ 5) k (ν 0)))), some (.int (nI (k + 1)))]) (nI (k + 1)) rfl (nI_1 _) 23 rfl d_Mod_allDebt_20 (by decide) rfl rfl ?_
        refine r_goto 4 rfl d_Mod_allDebt_23 ?_
        exact ih2 (k + 1) (by omega) (by omega)
  exact L4_1 _ 0 (by omega) (Nat.lt_succ_self _)
theorem c_Mod_owe (X : Xn) (a ν : Nat → Nat) (σ : Nat → Nat → Int32) (τ : Nat → Int64) (hn6 : ν 0 ≤ 6) (p q x : Int32) : Does X 4 M_Mod_owe [.ref (a 0), .int p, .int q, .int x] (MW X a ν σ τ) 0 0 (fun (vv : Option Value) (ww : va_W) => vv = some (.int (R_owe (ν 0) (σ 5) p q x)) ∧ ww = MW X a ν (if b_owe (ν 0) p q x = true then u2 σ 5 (upd (σ 5) (6 * cn p + cn q) x) else σ) τ) := by
  generalize hQ : (fun (vv : Option Value) (ww : va_W) => vv = some (.int (R_owe (ν 0) (σ 5) p q x)) ∧ ww = MW X a ν (if b_owe (ν 0) p q x = true then u2 σ 5 (upd (σ 5) (6 * cn p + cn q) x) else σ) τ) = Q
  refine Does.go rfl (Nat.le_of_ble_eq_true rfl) [some (.ref (a 0)), some (.int p), some (.int q), some (.int x), none] 1 rfl ?_
  refine r_aload_n rfl 1 rfl d_Mod_owe_0 ?_
  refine r_iload_n rfl 2 rfl d_Mod_owe_1 ?_
  refine r_iload_n rfl 3 rfl d_Mod_owe_2 ?_
  refine r_callVA1 (st2 := [.int (bI (isB (ν 0) p && isB (ν 0) q))]) (w2 := MW X a ν σ τ) lk_Mod_are ln_Mod_140 (c_Mod_are X a ν σ τ p q) (by first | decide | omega) rfl rfl (Nat.le_of_ble_eq_true rfl) (Nat.le_of_ble_eq_true rfl) (Nat.le_of_ble_eq_true rfl) 0 rfl rfl rfl rfl 6 rfl d_Mod_owe_3 ?_
  refine r_if_neB 9 11 rfl rfl d_Mod_owe_6 (fun h6 => ?_) (fun h6 => ?_)
  · obtain ⟨pN, qN, hpN, hqN, rfl, rfl⟩ := are_t hn6 h6
    have epN : cn (nI pN) = pN := cn_nI (by omega)
    have mpN : ¬ nI pN = -1 := m1n (by omega)
    have eqN : cn (nI qN) = qN := cn_nI (by omega)
    have mqN : ¬ nI qN = -1 := m1n (by omega)
    have bpN := isB_of hn6 hpN
    have bqN := isB_of hn6 hqN
    have epq : (nI pN = nI qN) = (pN = qN) := propext (nI_eq (by omega) (by omega))
    refine r_iload_n rfl 12 rfl d_Mod_owe_11 ?_
    refine r_iload_n rfl 13 rfl d_Mod_owe_12 ?_
    refine r_icmp_eqN pN qN (by omega) (by omega) 16 27 rfl rfl d_Mod_owe_13 (fun h13 => ?_) (fun h13 => ?_)
    · refine r_bipush ((-2)) rfl 29 rfl d_Mod_owe_27 ?_
      exact r_iret rfl (Nat.zero_le _) (Nat.zero_le _) d_Mod_owe_29 (by rw [← hQ]; exact ⟨by simp [R_owe, b_owe, h6, epN, mpN, eqN, mqN, bpN, bqN, epq, h13], by first | (simp [R_owe, b_owe, h6, epN, mpN, eqN, mqN, bpN, bqN, epq, h13, u2_self, u1_self]; done) | (simp [R_owe, b_owe, h6, epN, mpN, eqN, mqN, bpN, bqN, epq, h13, u2_self, u1_self]; rw [← h13, u1_self])⟩)
    · refine r_iload_n rfl 17 rfl d_Mod_owe_16 ?_
      refine r_iconst (nI 0) rfl 18 rfl d_Mod_owe_17 ?_
      refine r_sipush (nI 9999) rfl 21 rfl d_Mod_owe_18 ?_
      refine r_callS1 (st2 := [.int (bI (inR x (nI 0) (nI 9999)))]) (w2 := MW X a ν σ τ) lk_Mod_within ln_Mod_114 (c_Mod_within X x (nI 0) (nI 9999)) (by first | decide | omega) rfl rfl (Nat.le_of_ble_eq_true rfl) (Nat.le_of_ble_eq_true rfl) (Nat.le_of_ble_eq_true rfl) [] rfl rfl rfl rfl rfl 24 rfl d_Mod_owe_21 ?_
      refine r_if_neB 27 30 rfl rfl d_Mod_owe_24 (fun h24 => ?_) (fun h24 => ?_)
      · obtain ⟨xN, hxN, rfl⟩ := inR_t (by decide) h24
        have exN : cn (nI xN) = xN := cn_nI (by omega)
        have mxN : ¬ nI xN = -1 := m1n (by omega)
        refine r_aload_n rfl 31 rfl d_Mod_owe_30 ?_
        refine r_getf (v := .ref (a 5)) gf_Mod_24 0 rfl rfl 34 rfl d_Mod_owe_31 ?_
        refine r_bipush (nI 6) rfl 36 rfl d_Mod_owe_34 ?_
        refine r_iload_n rfl 37 rfl d_Mod_owe_36 ?_
        refine r_imul 38 rfl d_Mod_owe_37 ?_
        refine r_topi (nI (6 * pN)) (pk_mul _ _) ?_
        refine r_iload_n rfl 39 rfl d_Mod_owe_38 ?_
        refine r_iadd 40 rfl d_Mod_owe_39 ?_
        refine r_topi (nI ((6 * pN) + qN)) (nI_add _ _) ?_
        refine r_iald 5 rfl ((6 * pN) + qN) rfl (by omega) (by omega) 41 rfl d_Mod_owe_40 ?_
        refine r_istore (ls2 := [some (.ref (a 0)), some (.int (nI pN)), some (.int (nI qN)), some (.int (nI xN)), some (.int (σ 5 ((6 * pN) + qN)))]) 43 rfl d_Mod_owe_41 (by decide) rfl rfl ?_
        refine r_aload_n rfl 44 rfl d_Mod_owe_43 ?_
        refine r_getf (v := .ref (a 5)) gf_Mod_24 0 rfl rfl 47 rfl d_Mod_owe_44 ?_
        refine r_bipush (nI 6) rfl 49 rfl d_Mod_owe_47 ?_
        refine r_iload_n rfl 50 rfl d_Mod_owe_49 ?_
        refine r_imul 51 rfl d_Mod_owe_50 ?_
        refine r_topi (nI (6 * pN)) (pk_mul _ _) ?_
        refine r_iload_n rfl 52 rfl d_Mod_owe_51 ?_
        refine r_iadd 53 rfl d_Mod_owe_52 ?_
        refine r_topi (nI ((6 * pN) + qN)) (nI_add _ _) ?_
        refine r_iload_n rfl 54 rfl d_Mod_owe_53 ?_
        refine r_iast (w2 := MW X a ν (u2 σ 5 (upd (σ 5) ((6 * pN) + qN) (nI xN))) τ) 5 rfl ((6 * pN) + qN) rfl (by omega) (by omega) rfl 55 rfl d_Mod_owe_54 ?_
        refine r_iload rfl 57 rfl d_Mod_owe_55 ?_
        exact r_iret rfl (Nat.zero_le _) (Nat.zero_le _) d_Mod_owe_57 (by rw [← hQ]; exact ⟨by simp [R_owe, b_owe, h6, epN, mpN, eqN, mqN, bpN, bqN, epq, h13, h24, exN, mxN], by first | (simp [R_owe, b_owe, h6, epN, mpN, eqN, mqN, bpN, bqN, epq, h13, h24, exN, mxN, u2_self, u1_self]; done) | (simp [R_owe, b_owe, h6, epN, mpN, eqN, mqN, bpN, bqN, epq, h13, h24, exN, mxN, u2_self, u1_self]; rw [← mxN, u1_self])⟩)
      · refine r_bipush ((-2)) rfl 29 rfl d_Mod_owe_27 ?_
        exact r_iret rfl (Nat.zero_le _) (Nat.zero_le _) d_Mod_owe_29 (by rw [← hQ]; exact ⟨by simp [R_owe, b_owe, h6, epN, mpN, eqN, mqN, bpN, bqN, epq, h13, h24], by first | (simp [R_owe, b_owe, h6, epN, mpN, eqN, mqN, bpN, bqN, epq, h13, h24, u2_self, u1_self]; done) | (simp [R_owe, b_owe, h6, epN, mpN, eqN, mqN, bpN, bqN, epq, h13, h24, u2_self, u1_self]; rw [← h24, u1_self])⟩)
  · refine r_iconst ((-1)) rfl 10 rfl d_Mod_owe_9 ?_
    exact r_iret rfl (Nat.zero_le _) (Nat.zero_le _) d_Mod_owe_10 (by rw [← hQ]; exact ⟨by simp [R_owe, b_owe, h6], by first | (simp [R_owe, b_owe, h6, u2_self, u1_self]; done) | (simp [R_owe, b_owe, h6, u2_self, u1_self]; rw [← h6, u1_self])⟩)
theorem c_Mod_purse (X : Xn) (a ν : Nat → Nat) (σ : Nat → Nat → Int32) (τ : Nat → Int64) (hn6 : ν 0 ≤ 6) (p x : Int32) : Does X 4 M_Mod_purse [.ref (a 0), .int p, .int x] (MW X a ν σ τ) 0 0 (fun (vv : Option Value) (ww : va_W) => vv = some (.int (R_purse (ν 0) (σ 3) p x)) ∧ ww = MW X a ν (if b_purse (ν 0) p x = true then u2 σ 3 (upd (σ 3) (cn p) x) else σ) τ) := by
  generalize hQ : (fun (vv : Option Value) (ww : va_W) => vv = some (.int (R_purse (ν 0) (σ 3) p x)) ∧ ww = MW X a ν (if b_purse (ν 0) p x = true then u2 σ 3 (upd (σ 3) (cn p) x) else σ) τ) = Q
  refine Does.go rfl (Nat.le_of_ble_eq_true rfl) [some (.ref (a 0)), some (.int p), some (.int x), none] 1 rfl ?_
  refine r_aload_n rfl 1 rfl d_Mod_purse_0 ?_
  refine r_iload_n rfl 2 rfl d_Mod_purse_1 ?_
  refine r_callVA1 (st2 := [.int (bI (isB (ν 0) p))]) (w2 := MW X a ν σ τ) lk_Mod_isOne ln_Mod_118 (c_Mod_isOne X a ν σ τ p) (by first | decide | omega) rfl rfl (Nat.le_of_ble_eq_true rfl) (Nat.le_of_ble_eq_true rfl) (Nat.le_of_ble_eq_true rfl) 0 rfl rfl rfl rfl 5 rfl d_Mod_purse_2 ?_
  refine r_if_neB 8 10 rfl rfl d_Mod_purse_5 (fun h5 => ?_) (fun h5 => ?_)
  · obtain ⟨pN, hpN, rfl⟩ := isB_t hn6 h5
    have epN : cn (nI pN) = pN := cn_nI (by omega)
    have mpN : ¬ nI pN = -1 := m1n (by omega)
    refine r_iload_n rfl 11 rfl d_Mod_purse_10 ?_
    refine r_iconst (nI 0) rfl 12 rfl d_Mod_purse_11 ?_
    refine r_sipush (nI 9999) rfl 15 rfl d_Mod_purse_12 ?_
    refine r_callS1 (st2 := [.int (bI (inR x (nI 0) (nI 9999)))]) (w2 := MW X a ν σ τ) lk_Mod_within ln_Mod_114 (c_Mod_within X x (nI 0) (nI 9999)) (by first | decide | omega) rfl rfl (Nat.le_of_ble_eq_true rfl) (Nat.le_of_ble_eq_true rfl) (Nat.le_of_ble_eq_true rfl) [] rfl rfl rfl rfl rfl 18 rfl d_Mod_purse_15 ?_
    refine r_if_neB 21 24 rfl rfl d_Mod_purse_18 (fun h18 => ?_) (fun h18 => ?_)
    · obtain ⟨xN, hxN, rfl⟩ := inR_t (by decide) h18
      have exN : cn (nI xN) = xN := cn_nI (by omega)
      have mxN : ¬ nI xN = -1 := m1n (by omega)
      refine r_aload_n rfl 25 rfl d_Mod_purse_24 ?_
      refine r_getf (v := .ref (a 3)) gf_Mod_18 0 rfl rfl 28 rfl d_Mod_purse_25 ?_
      refine r_iload_n rfl 29 rfl d_Mod_purse_28 ?_
      refine r_iald 3 rfl pN rfl (by omega) (by omega) 30 rfl d_Mod_purse_29 ?_
      refine r_istore_n (ls2 := [some (.ref (a 0)), some (.int (nI pN)), some (.int (nI xN)), some (.int (σ 3 pN))]) 31 rfl d_Mod_purse_30 (by decide) rfl rfl ?_
      refine r_aload_n rfl 32 rfl d_Mod_purse_31 ?_
      refine r_getf (v := .ref (a 3)) gf_Mod_18 0 rfl rfl 35 rfl d_Mod_purse_32 ?_
      refine r_iload_n rfl 36 rfl d_Mod_purse_35 ?_
      refine r_iload_n rfl 37 rfl d_Mod_purse_36 ?_
      refine r_iast (w2 := MW X a ν (u2 σ 3 (upd (σ 3) pN (nI xN))) τ) 3 rfl pN rfl (by omega) (by omega) rfl 38 rfl d_Mod_purse_37 ?_
      refine r_iload_n rfl 39 rfl d_Mod_purse_38 ?_
      exact r_iret rfl (Nat.zero_le _) (Nat.zero_le _) d_Mod_purse_39 (by rw [← hQ]; exact ⟨by simp [R_purse, b_purse, h5, epN, mpN, h18, exN, mxN], by first | (simp [R_purse, b_purse, h5, epN, mpN, h18, exN, mxN, u2_self, u1_self]; done) | (simp [R_purse, b_purse, h5, epN, mpN, h18, exN, mxN, u2_self, u1_self]; rw [← mxN, u1_self])⟩)
    · refine r_bipush ((-2)) rfl 23 rfl d_Mod_purse_21 ?_
      exact r_iret rfl (Nat.zero_le _) (Nat.zero_le _) d_Mod_purse_23 (by rw [← hQ]; exact ⟨by simp [R_purse, b_purse, h5, epN, mpN, h18], by first | (simp [R_purse, b_purse, h5, epN, mpN, h18, u2_self, u1_self]; done) | (simp [R_purse, b_purse, h5, epN, mpN, h18, u2_self, u1_self]; rw [← h18, u1_self])⟩)
  · refine r_iconst ((-1)) rfl 9 rfl d_Mod_purse_8 ?_
    exact r_iret rfl (Nat.zero_le _) (Nat.zero_le _) d_Mod_purse_9 (by rw [← hQ]; exact ⟨by simp [R_purse, b_purse, h5], by first | (simp [R_purse, b_purse, h5, u2_self, u1_self]; done) | (simp [R_purse, b_purse, h5, u2_self, u1_self]; rw [← h5, u1_self])⟩)
theorem c_Mod_row (X : Xn) (a ν : Nat → Nat) (σ : Nat → Nat → Int32) (τ : Nat → Int64) (hn6 : ν 0 ≤ 6) (p k x : Int32) : Does X 4 M_Mod_row [.ref (a 0), .int p, .int k, .int x] (MW X a ν σ τ) 0 0 (fun (vv : Option Value) (ww : va_W) => vv = some (.int (R_row (ν 0) (σ 1) (σ 4) p k x)) ∧ ww = MW X a ν (if b_row (ν 0) (σ 1) p k x = true then u2 σ 4 (upd (σ 4) (4 * cn p + cn k) x) else σ) τ) := by
  generalize hQ : (fun (vv : Option Value) (ww : va_W) => vv = some (.int (R_row (ν 0) (σ 1) (σ 4) p k x)) ∧ ww = MW X a ν (if b_row (ν 0) (σ 1) p k x = true then u2 σ 4 (upd (σ 4) (4 * cn p + cn k) x) else σ) τ) = Q
  refine Does.go rfl (Nat.le_of_ble_eq_true rfl) [some (.ref (a 0)), some (.int p), some (.int k), some (.int x), none] 1 rfl ?_
  refine r_aload_n rfl 1 rfl d_Mod_row_0 ?_
  refine r_iload_n rfl 2 rfl d_Mod_row_1 ?_
  refine r_callVA1 (st2 := [.int (bI (isB (ν 0) p))]) (w2 := MW X a ν σ τ) lk_Mod_isOne ln_Mod_118 (c_Mod_isOne X a ν σ τ p) (by first | decide | omega) rfl rfl (Nat.le_of_ble_eq_true rfl) (Nat.le_of_ble_eq_true rfl) (Nat.le_of_ble_eq_true rfl) 0 rfl rfl rfl rfl 5 rfl d_Mod_row_2 ?_
  refine r_if_eqB 8 17 rfl rfl d_Mod_row_5 (fun h5 => ?_) (fun h5 => ?_)
  · refine r_iconst ((-1)) rfl 18 rfl d_Mod_row_17 ?_
    exact r_iret rfl (Nat.zero_le _) (Nat.zero_le _) d_Mod_row_18 (by rw [← hQ]; exact ⟨by simp [R_row, b_row, h5], by first | (simp [R_row, b_row, h5, u2_self, u1_self]; done) | (simp [R_row, b_row, h5, u2_self, u1_self]; rw [← h5, u1_self])⟩)
  · obtain ⟨pN, hpN, rfl⟩ := isB_t hn6 h5
    have epN : cn (nI pN) = pN := cn_nI (by omega)
    have mpN : ¬ nI pN = -1 := m1n (by omega)
    refine r_iload_n rfl 9 rfl d_Mod_row_8 ?_
    refine r_iconst (nI 0) rfl 10 rfl d_Mod_row_9 ?_
    refine r_iconst (nI 3) rfl 11 rfl d_Mod_row_10 ?_
    refine r_callS1 (st2 := [.int (bI (inR k (nI 0) (nI 3)))]) (w2 := MW X a ν σ τ) lk_Mod_within ln_Mod_114 (c_Mod_within X k (nI 0) (nI 3)) (by first | decide | omega) rfl rfl (Nat.le_of_ble_eq_true rfl) (Nat.le_of_ble_eq_true rfl) (Nat.le_of_ble_eq_true rfl) [] rfl rfl rfl rfl rfl 14 rfl d_Mod_row_11 ?_
    refine r_if_neB 17 19 rfl rfl d_Mod_row_14 (fun h14 => ?_) (fun h14 => ?_)
    · obtain ⟨kN, hkN, rfl⟩ := inR_t (by decide) h14
      have ekN : cn (nI kN) = kN := cn_nI (by omega)
      have mkN : ¬ nI kN = -1 := m1n (by omega)
      refine r_iload_n rfl 20 rfl d_Mod_row_19 ?_
      refine r_iconst (nI 0) rfl 21 rfl d_Mod_row_20 ?_
      refine r_bipush (nI 9) rfl 23 rfl d_Mod_row_21 ?_
      refine r_callS1 (st2 := [.int (bI (inR x (nI 0) (nI 9)))]) (w2 := MW X a ν σ τ) lk_Mod_within ln_Mod_114 (c_Mod_within X x (nI 0) (nI 9)) (by first | decide | omega) rfl rfl (Nat.le_of_ble_eq_true rfl) (Nat.le_of_ble_eq_true rfl) (Nat.le_of_ble_eq_true rfl) [] rfl rfl rfl rfl rfl 26 rfl d_Mod_row_23 ?_
      refine r_if_neB 29 32 rfl rfl d_Mod_row_26 (fun h26 => ?_) (fun h26 => ?_)
      · obtain ⟨xN, hxN, rfl⟩ := inR_t (by decide) h26
        have exN : cn (nI xN) = xN := cn_nI (by omega)
        have mxN : ¬ nI xN = -1 := m1n (by omega)
        refine r_aload_n rfl 33 rfl d_Mod_row_32 ?_
        refine r_getf (v := .ref (a 1)) gf_Mod_9 0 rfl rfl 36 rfl d_Mod_row_33 ?_
        refine r_iload_n rfl 37 rfl d_Mod_row_36 ?_
        refine r_iald 1 rfl pN rfl (by omega) (by omega) 38 rfl d_Mod_row_37 ?_
        refine r_bipush (nI 6) rfl 40 rfl d_Mod_row_38 ?_
        refine r_icmp_eq 43 46 rfl rfl d_Mod_row_40 (fun h40 => ?_) (fun h40 => ?_)
        · refine r_aload_n rfl 47 rfl d_Mod_row_46 ?_
          refine r_getf (v := .ref (a 4)) gf_Mod_21 0 rfl rfl 50 rfl d_Mod_row_47 ?_
          refine r_iconst (nI 4) rfl 51 rfl d_Mod_row_50 ?_
          refine r_iload_n rfl 52 rfl d_Mod_row_51 ?_
          refine r_imul 53 rfl d_Mod_row_52 ?_
          refine r_topi (nI (4 * pN)) (pk_mul _ _) ?_
          refine r_iload_n rfl 54 rfl d_Mod_row_53 ?_
          refine r_iadd 55 rfl d_Mod_row_54 ?_
          refine r_topi (nI ((4 * pN) + kN)) (nI_add _ _) ?_
          refine r_iald 4 rfl ((4 * pN) + kN) rfl (by omega) (by omega) 56 rfl d_Mod_row_55 ?_
          refine r_istore (ls2 := [some (.ref (a 0)), some (.int (nI pN)), some (.int (nI kN)), some (.int (nI xN)), some (.int (σ 4 ((4 * pN) + kN)))]) 58 rfl d_Mod_row_56 (by decide) rfl rfl ?_
          refine r_aload_n rfl 59 rfl d_Mod_row_58 ?_
          refine r_getf (v := .ref (a 4)) gf_Mod_21 0 rfl rfl 62 rfl d_Mod_row_59 ?_
          refine r_iconst (nI 4) rfl 63 rfl d_Mod_row_62 ?_
          refine r_iload_n rfl 64 rfl d_Mod_row_63 ?_
          refine r_imul 65 rfl d_Mod_row_64 ?_
          refine r_topi (nI (4 * pN)) (pk_mul _ _) ?_
          refine r_iload_n rfl 66 rfl d_Mod_row_65 ?_
          refine r_iadd 67 rfl d_Mod_row_66 ?_
          refine r_topi (nI ((4 * pN) + kN)) (nI_add _ _) ?_
          refine r_iload_n rfl 68 rfl d_Mod_row_67 ?_
          refine r_iast (w2 := MW X a ν (u2 σ 4 (upd (σ 4) ((4 * pN) + kN) (nI xN))) τ) 4 rfl ((4 * pN) + kN) rfl (by omega) (by omega) rfl 69 rfl d_Mod_row_68 ?_
          refine r_iload rfl 71 rfl d_Mod_row_69 ?_
          exact r_iret rfl (Nat.zero_le _) (Nat.zero_le _) d_Mod_row_71 (by rw [← hQ]; exact ⟨by simp [R_row, b_row, h5, epN, mpN, h14, ekN, mkN, h26, exN, mxN, h40], by first | (simp [R_row, b_row, h5, epN, mpN, h14, ekN, mkN, h26, exN, mxN, h40, u2_self, u1_self]; done) | (simp [R_row, b_row, h5, epN, mpN, h14, ekN, mkN, h26, exN, mxN, h40, u2_self, u1_self]; rw [← h40, u1_self])⟩)
        · refine r_bipush ((-3)) rfl 45 rfl d_Mod_row_43 ?_
          exact r_iret rfl (Nat.zero_le _) (Nat.zero_le _) d_Mod_row_45 (by rw [← hQ]; exact ⟨by simp [R_row, b_row, h5, epN, mpN, h14, ekN, mkN, h26, exN, mxN, h40], by first | (simp [R_row, b_row, h5, epN, mpN, h14, ekN, mkN, h26, exN, mxN, h40, u2_self, u1_self]; done) | (simp [R_row, b_row, h5, epN, mpN, h14, ekN, mkN, h26, exN, mxN, h40, u2_self, u1_self]; rw [← h40, u1_self])⟩)
      · refine r_bipush ((-2)) rfl 31 rfl d_Mod_row_29 ?_
        exact r_iret rfl (Nat.zero_le _) (Nat.zero_le _) d_Mod_row_31 (by rw [← hQ]; exact ⟨by simp [R_row, b_row, h5, epN, mpN, h14, ekN, mkN, h26], by first | (simp [R_row, b_row, h5, epN, mpN, h14, ekN, mkN, h26, u2_self, u1_self]; done) | (simp [R_row, b_row, h5, epN, mpN, h14, ekN, mkN, h26, u2_self, u1_self]; rw [← h26, u1_self])⟩)
    · refine r_iconst ((-1)) rfl 18 rfl d_Mod_row_17 ?_
      exact r_iret rfl (Nat.zero_le _) (Nat.zero_le _) d_Mod_row_18 (by rw [← hQ]; exact ⟨by simp [R_row, b_row, h5, epN, mpN, h14], by first | (simp [R_row, b_row, h5, epN, mpN, h14, u2_self, u1_self]; done) | (simp [R_row, b_row, h5, epN, mpN, h14, u2_self, u1_self]; rw [← h14, u1_self])⟩)
theorem c_Mod_feed (X : Xn) (a ν : Nat → Nat) (σ : Nat → Nat → Int32) (τ : Nat → Int64) (ht : ν 7 ≤ 100) (x : Int32) : Does X 2 M_Mod_feed [.ref (a 0), .int x] (MW X a ν σ τ) 0 0 (fun (vv : Option Value) (ww : va_W) => vv = some (.int (R_feed (ν 7) x)) ∧ ww = MW X a (if b_feed (ν 7) x = true then u1 ν 7 (ν 7 + 1) else ν) (if b_feed (ν 7) x = true then u2 σ 8 (upd (σ 8) (ν 7) x) else σ) τ) := by
  generalize hQ : (fun (vv : Option Value) (ww : va_W) => vv = some (.int (R_feed (ν 7) x)) ∧ ww = MW X a (if b_feed (ν 7) x = true then u1 ν 7 (ν 7 + 1) else ν) (if b_feed (ν 7) x = true then u2 σ 8 (upd (σ 8) (ν 7) x) else σ) τ) = Q
  refine Does.go rfl (Nat.le_of_ble_eq_true rfl) [some (.ref (a 0)), some (.int x)] 0 rfl ?_
  refine r_iload_n rfl 1 rfl d_Mod_feed_0 ?_
  refine r_iconst (nI 0) rfl 2 rfl d_Mod_feed_1 ?_
  refine r_bipush (nI 127) rfl 4 rfl d_Mod_feed_2 ?_
  refine r_callS1 (st2 := [.int (bI (inR x (nI 0) (nI 127)))]) (w2 := MW X a ν σ τ) lk_Mod_within ln_Mod_114 (c_Mod_within X x (nI 0) (nI 127)) (by first | decide | omega) rfl rfl (Nat.le_of_ble_eq_true rfl) (Nat.le_of_ble_eq_true rfl) (Nat.le_of_ble_eq_true rfl) [] rfl rfl rfl rfl rfl 7 rfl d_Mod_feed_4 ?_
  refine r_if_neB 10 13 rfl rfl d_Mod_feed_7 (fun h7 => ?_) (fun h7 => ?_)
  · obtain ⟨xN, hxN, rfl⟩ := inR_t (by decide) h7
    have exN : cn (nI xN) = xN := cn_nI (by omega)
    have mxN : ¬ nI xN = -1 := m1n (by omega)
    refine r_aload_n rfl 14 rfl d_Mod_feed_13 ?_
    refine r_getf (v := .int (nI (ν 7))) gf_Mod_144 0 rfl rfl 17 rfl d_Mod_feed_14 ?_
    refine r_bipush (nI 100) rfl 19 rfl d_Mod_feed_17 ?_
    refine r_icmp_neN (ν 7) 100 (by omega) (by omega) 22 25 rfl rfl d_Mod_feed_19 (fun h19 => ?_) (fun h19 => ?_)
    · refine r_aload_n rfl 26 rfl d_Mod_feed_25 ?_
      refine r_getf (v := .ref (a 8)) gf_Mod_27 0 rfl rfl 29 rfl d_Mod_feed_26 ?_
      refine r_aload_n rfl 30 rfl d_Mod_feed_29 ?_
      refine r_dup rfl 31 rfl d_Mod_feed_30 ?_
      refine r_getf (v := .int (nI (ν 7))) gf_Mod_144 0 rfl rfl 34 rfl d_Mod_feed_31 ?_
      refine r_dup_x1 rfl rfl 35 rfl d_Mod_feed_34 ?_
      refine r_iconst (nI 1) rfl 36 rfl d_Mod_feed_35 ?_
      refine r_iadd 37 rfl d_Mod_feed_36 ?_
      refine r_topi (nI ((ν 7) + 1)) (nI_add _ _) ?_
      refine r_putf (w2 := MW X a (u1 ν 7 ((ν 7) + 1)) σ τ) pf_Mod_144 0 rfl (rfl) rfl (Nat.le_of_ble_eq_true rfl) rfl 40 rfl d_Mod_feed_37 ?_
      refine r_iload_n rfl 41 rfl d_Mod_feed_40 ?_
      refine r_iast (w2 := MW X a (u1 ν 7 ((ν 7) + 1)) (u2 σ 8 (upd (σ 8) (ν 7) (nI xN))) τ) 6 rfl (ν 7) rfl (by omega) (by omega) rfl 42 rfl d_Mod_feed_41 ?_
      refine r_aload_n rfl 43 rfl d_Mod_feed_42 ?_
      refine r_getf (v := .int (nI ((ν 7) + 1))) gf_Mod_144 0 rfl rfl 46 rfl d_Mod_feed_43 ?_
      exact r_iret rfl (Nat.zero_le _) (Nat.zero_le _) d_Mod_feed_46 (by rw [← hQ]; exact ⟨by simp [R_feed, b_feed, h7, exN, mxN, h19], by first | (simp [R_feed, b_feed, h7, exN, mxN, h19, u2_self, u1_self]; done) | (simp [R_feed, b_feed, h7, exN, mxN, h19, u2_self, u1_self]; rw [← h19, u1_self])⟩)
    · refine r_bipush ((-4)) rfl 24 rfl d_Mod_feed_22 ?_
      exact r_iret rfl (Nat.zero_le _) (Nat.zero_le _) d_Mod_feed_24 (by rw [← hQ]; exact ⟨by simp [R_feed, b_feed, h7, exN, mxN, h19], by first | (simp [R_feed, b_feed, h7, exN, mxN, h19, u2_self, u1_self]; done) | (simp [R_feed, b_feed, h7, exN, mxN, h19, u2_self, u1_self]; rw [← h19, u1_self])⟩)
  · refine r_bipush ((-2)) rfl 12 rfl d_Mod_feed_10 ?_
    exact r_iret rfl (Nat.zero_le _) (Nat.zero_le _) d_Mod_feed_12 (by rw [← hQ]; exact ⟨by simp [R_feed, b_feed, h7], by first | (simp [R_feed, b_feed, h7, u2_self, u1_self]; done) | (simp [R_feed, b_feed, h7, u2_self, u1_self]; rw [← h7, u1_self])⟩)
theorem c_Mod_pass (X : Xn) (a ν : Nat → Nat) (σ : Nat → Nat → Int32) (τ : Nat → Int64) (ht : ν 6 ≤ 9999) (x : Int32) : Does X 2 M_Mod_pass [.ref (a 0), .int x] (MW X a ν σ τ) 0 0 (fun (vv : Option Value) (ww : va_W) => vv = some (.int (R_pass (ν 6) x)) ∧ ww = MW X a (if b_pass (ν 6) x = true then u1 ν 6 (ν 6 + cn x) else ν) σ τ) := by
  generalize hQ : (fun (vv : Option Value) (ww : va_W) => vv = some (.int (R_pass (ν 6) x)) ∧ ww = MW X a (if b_pass (ν 6) x = true then u1 ν 6 (ν 6 + cn x) else ν) σ τ) = Q
  refine Does.go rfl (Nat.le_of_ble_eq_true rfl) [some (.ref (a 0)), some (.int x)] 0 rfl ?_
  refine r_iload_n rfl 1 rfl d_Mod_pass_0 ?_
  refine r_iconst (nI 0) rfl 2 rfl d_Mod_pass_1 ?_
  refine r_bipush (nI 60) rfl 4 rfl d_Mod_pass_2 ?_
  refine r_callS1 (st2 := [.int (bI (inR x (nI 0) (nI 60)))]) (w2 := MW X a ν σ τ) lk_Mod_within ln_Mod_114 (c_Mod_within X x (nI 0) (nI 60)) (by first | decide | omega) rfl rfl (Nat.le_of_ble_eq_true rfl) (Nat.le_of_ble_eq_true rfl) (Nat.le_of_ble_eq_true rfl) [] rfl rfl rfl rfl rfl 7 rfl d_Mod_pass_4 ?_
  refine r_if_neB 10 13 rfl rfl d_Mod_pass_7 (fun h7 => ?_) (fun h7 => ?_)
  · obtain ⟨xN, hxN, rfl⟩ := inR_t (by decide) h7
    have exN : cn (nI xN) = xN := cn_nI (by omega)
    have mxN : ¬ nI xN = -1 := m1n (by omega)
    refine r_aload_n rfl 14 rfl d_Mod_pass_13 ?_
    refine r_getf (v := .int (nI (ν 6))) gf_Mod_240 0 rfl rfl 17 rfl d_Mod_pass_14 ?_
    refine r_iload_n rfl 18 rfl d_Mod_pass_17 ?_
    refine r_iadd 19 rfl d_Mod_pass_18 ?_
    refine r_topi (nI ((ν 6) + xN)) (nI_add _ _) ?_
    refine r_sipush (nI 9999) rfl 22 rfl d_Mod_pass_19 ?_
    refine r_icmp_leN ((ν 6) + xN) 9999 (by omega) (by omega) 25 28 rfl rfl d_Mod_pass_22 (fun h22 => ?_) (fun h22 => ?_)
    · have n22 := Nat.not_lt.mpr h22
      refine r_aload_n rfl 29 rfl d_Mod_pass_28 ?_
      refine r_dup rfl 30 rfl d_Mod_pass_29 ?_
      refine r_getf (v := .int (nI (ν 6))) gf_Mod_240 0 rfl rfl 33 rfl d_Mod_pass_30 ?_
      refine r_iload_n rfl 34 rfl d_Mod_pass_33 ?_
      refine r_iadd 35 rfl d_Mod_pass_34 ?_
      refine r_topi (nI ((ν 6) + xN)) (nI_add _ _) ?_
      refine r_putf (w2 := MW X a (u1 ν 6 ((ν 6) + xN)) σ τ) pf_Mod_240 0 rfl (rfl) rfl (Nat.le_of_ble_eq_true rfl) rfl 38 rfl d_Mod_pass_35 ?_
      refine r_aload_n rfl 39 rfl d_Mod_pass_38 ?_
      refine r_getf (v := .int (nI ((ν 6) + xN))) gf_Mod_240 0 rfl rfl 42 rfl d_Mod_pass_39 ?_
      exact r_iret rfl (Nat.zero_le _) (Nat.zero_le _) d_Mod_pass_42 (by rw [← hQ]; exact ⟨by simp [R_pass, b_pass, h7, exN, mxN, h22, n22], by first | (simp [R_pass, b_pass, h7, exN, mxN, h22, n22, u2_self, u1_self]; done) | (simp [R_pass, b_pass, h7, exN, mxN, h22, n22, u2_self, u1_self]; rw [← n22, u1_self])⟩)
    · have n22 := Nat.not_le.mpr h22
      refine r_bipush ((-3)) rfl 27 rfl d_Mod_pass_25 ?_
      exact r_iret rfl (Nat.zero_le _) (Nat.zero_le _) d_Mod_pass_27 (by rw [← hQ]; exact ⟨by simp [R_pass, b_pass, h7, exN, mxN, h22, n22], by first | (simp [R_pass, b_pass, h7, exN, mxN, h22, n22, u2_self, u1_self]; done) | (simp [R_pass, b_pass, h7, exN, mxN, h22, n22, u2_self, u1_self]; rw [← n22, u1_self])⟩)
  · refine r_bipush ((-2)) rfl 12 rfl d_Mod_pass_10 ?_
    exact r_iret rfl (Nat.zero_le _) (Nat.zero_le _) d_Mod_pass_12 (by rw [← hQ]; exact ⟨by simp [R_pass, b_pass, h7], by first | (simp [R_pass, b_pass, h7, u2_self, u1_self]; done) | (simp [R_pass, b_pass, h7, u2_self, u1_self]; rw [← h7, u1_self])⟩)
theorem c_Mod_trader (X : Xn) (a ν : Nat → Nat) (σ : Nat → Nat → Int32) (τ : Nat → Int64) (hn6 : ν 0 ≤ 6) (hz4 : ∀ i, i < 4 → σ 4 (4 * ν 0 + i) = nI 0) (hz5 : ∀ q, q < 6 → σ 5 (6 * ν 0 + q) = nI 0 ∧ σ 5 (6 * q + ν 0) = nI 0) (k v : Int32) : Does X 2 M_Mod_trader [.ref (a 0), .int k, .int v] (MW X a ν σ τ) 0 0 (fun (vv : Option Value) (ww : va_W) => vv = some (.int (R_trader (ν 0) k v)) ∧ ww = MW X a (if b_trader (ν 0) k v = true then u1 ν 0 (ν 0 + 1) else ν) (if b_trader (ν 0) k v = true then u2 (u2 (u2 σ 1 (upd (σ 1) (ν 0) k)) 2 (upd (σ 2) (ν 0) v)) 3 (upd (σ 3) (ν 0) (nI 100)) else σ) τ) := by
  generalize hQ : (fun (vv : Option Value) (ww : va_W) => vv = some (.int (R_trader (ν 0) k v)) ∧ ww = MW X a (if b_trader (ν 0) k v = true then u1 ν 0 (ν 0 + 1) else ν) (if b_trader (ν 0) k v = true then u2 (u2 (u2 σ 1 (upd (σ 1) (ν 0) k)) 2 (upd (σ 2) (ν 0) v)) 3 (upd (σ 3) (ν 0) (nI 100)) else σ) τ) = Q
  refine Does.go rfl (Nat.le_of_ble_eq_true rfl) [some (.ref (a 0)), some (.int k), some (.int v), none, none] 2 rfl ?_
  refine r_iload_n rfl 1 rfl d_Mod_trader_0 ?_
  refine r_iconst (nI 0) rfl 2 rfl d_Mod_trader_1 ?_
  refine r_bipush (nI 6) rfl 4 rfl d_Mod_trader_2 ?_
  refine r_callS1 (st2 := [.int (bI (inR k (nI 0) (nI 6)))]) (w2 := MW X a ν σ τ) lk_Mod_within ln_Mod_114 (c_Mod_within X k (nI 0) (nI 6)) (by first | decide | omega) rfl rfl (Nat.le_of_ble_eq_true rfl) (Nat.le_of_ble_eq_true rfl) (Nat.le_of_ble_eq_true rfl) [] rfl rfl rfl rfl rfl 7 rfl d_Mod_trader_4 ?_
  refine r_if_neB 10 12 rfl rfl d_Mod_trader_7 (fun h7 => ?_) (fun h7 => ?_)
  · refine r_iload_n rfl 13 rfl d_Mod_trader_12 ?_
    refine r_iconst (nI 0) rfl 14 rfl d_Mod_trader_13 ?_
    refine r_bipush (nI 9) rfl 16 rfl d_Mod_trader_14 ?_
    refine r_callS1 (st2 := [.int (bI (inR v (nI 0) (nI 9)))]) (w2 := MW X a ν σ τ) lk_Mod_within ln_Mod_114 (c_Mod_within X v (nI 0) (nI 9)) (by first | decide | omega) rfl rfl (Nat.le_of_ble_eq_true rfl) (Nat.le_of_ble_eq_true rfl) (Nat.le_of_ble_eq_true rfl) [] rfl rfl rfl rfl rfl 19 rfl d_Mod_trader_16 ?_
    refine r_if_neB 22 25 rfl rfl d_Mod_trader_19 (fun h19 => ?_) (fun h19 => ?_)
    · refine r_aload_n rfl 26 rfl d_Mod_trader_25 ?_
      refine r_getf (v := .int (nI (ν 0))) gf_Mod_111 0 rfl rfl 29 rfl d_Mod_trader_26 ?_
      refine r_bipush (nI 6) rfl 31 rfl d_Mod_trader_29 ?_
      refine r_icmp_neN (ν 0) 6 (by omega) (by omega) 34 37 rfl rfl d_Mod_trader_31 (fun h31 => ?_) (fun h31 => ?_)
      · refine r_aload_n rfl 38 rfl d_Mod_trader_37 ?_
        refine r_getf (v := .int (nI (ν 0))) gf_Mod_111 0 rfl rfl 41 rfl d_Mod_trader_38 ?_
        refine r_istore_n (ls2 := [some (.ref (a 0)), some (.int k), some (.int v), some (.int (nI (ν 0))), none]) 42 rfl d_Mod_trader_41 (by decide) rfl rfl ?_
        refine r_aload_n rfl 43 rfl d_Mod_trader_42 ?_
        refine r_getf (v := .ref (a 1)) gf_Mod_9 0 rfl rfl 46 rfl d_Mod_trader_43 ?_
        refine r_iload_n rfl 47 rfl d_Mod_trader_46 ?_
        refine r_iload_n rfl 48 rfl d_Mod_trader_47 ?_
        refine r_iast (w2 := MW X a ν (u2 σ 1 (upd (σ 1) (ν 0) k)) τ) 1 rfl (ν 0) rfl (by omega) (by omega) rfl 49 rfl d_Mod_trader_48 ?_
        refine r_aload_n rfl 50 rfl d_Mod_trader_49 ?_
        refine r_getf (v := .ref (a 2)) gf_Mod_15 0 rfl rfl 53 rfl d_Mod_trader_50 ?_
        refine r_iload_n rfl 54 rfl d_Mod_trader_53 ?_
        refine r_iload_n rfl 55 rfl d_Mod_trader_54 ?_
        refine r_iast (w2 := MW X a ν (u2 (u2 σ 1 (upd (σ 1) (ν 0) k)) 2 (upd (σ 2) (ν 0) v)) τ) 2 rfl (ν 0) rfl (by omega) (by omega) rfl 56 rfl d_Mod_trader_55 ?_
        refine r_aload_n rfl 57 rfl d_Mod_trader_56 ?_
        refine r_getf (v := .ref (a 3)) gf_Mod_18 0 rfl rfl 60 rfl d_Mod_trader_57 ?_
        refine r_iload_n rfl 61 rfl d_Mod_trader_60 ?_
        refine r_bipush (nI 100) rfl 63 rfl d_Mod_trader_61 ?_
        refine r_iast (w2 := MW X a ν (u2 (u2 (u2 σ 1 (upd (σ 1) (ν 0) k)) 2 (upd (σ 2) (ν 0) v)) 3 (upd (σ 3) (ν 0) (nI 100))) τ) 3 rfl (ν 0) rfl (by omega) (by omega) rfl 64 rfl d_Mod_trader_63 ?_
        refine r_iconst (nI 0) rfl 65 rfl d_Mod_trader_64 ?_
        refine r_istore (ls2 := [some (.ref (a 0)), some (.int k), some (.int v), some (.int (nI (ν 0))), some (.int (nI 0))]) 67 rfl d_Mod_trader_65 (by decide) rfl rfl ?_
        have L67_1 : ∀ (f : Nat) (i : Nat), (i ≤ 4) → 4 - i < f → Runs X 2 M_Mod_trader 0 0 Q 67 [some (.ref (a 0)), some (.int k), some (.int v), some (.int (nI (ν 0))), some (.int (nI i))] [] 0 0 (MW X a ν (u2 (u2 (u2 σ 1 (upd (σ 1) (ν 0) k)) 2 (upd (σ 2) (ν 0) v)) 3 (upd (σ 3) (ν 0) (nI 100))) τ) := by
          intro f
          induction f with
          | zero => intro i hi hmu; exact absurd hmu (Nat.not_lt_zero _)
          | succ f ih2 =>
            intro i hi hmu
            refine r_iload rfl 69 rfl d_Mod_trader_67 ?_
            refine r_iconst (nI 4) rfl 70 rfl d_Mod_trader_69 ?_
            refine r_icmp_geN i 4 (by omega) (by omega) 73 91 rfl rfl d_Mod_trader_70 (fun h70 => ?_) (fun h70 => ?_)
            · have n70 := Nat.not_lt.mpr h70
              refine r_iconst (nI 0) rfl 92 rfl d_Mod_trader_91 ?_
              refine r_istore (ls2 := [some (.ref (a 0)), some (.int k), some (.int v), some (.int (nI (ν 0))), some (.int (nI 0))]) 94 rfl d_Mod_trader_92 (by decide) rfl rfl ?_
              have L94_3 : ∀ (f : Nat) (q : Nat), (q ≤ 6) → 6 - q < f → Runs X 2 M_Mod_trader 0 0 Q 94 [some (.ref (a 0)), some (.int k), some (.int v), some (.int (nI (ν 0))), some (.int (nI q))] [] 0 0 (MW X a ν (u2 (u2 (u2 σ 1 (upd (σ 1) (ν 0) k)) 2 (upd (σ 2) (ν 0) v)) 3 (upd (σ 3) (ν 0) (nI 100))) τ) := by
                intro f
                induction f with
                | zero => intro q hq hmu; exact absurd hmu (Nat.not_lt_zero _)
                | succ f ih4 =>
                  intro q hq hmu
                  refine r_iload rfl 96 rfl d_Mod_trader_94 ?_
                  refine r_bipush (nI 6) rfl 98 rfl d_Mod_trader_96 ?_
                  refine r_icmp_geN q 6 (by omega) (by omega) 101 133 rfl rfl d_Mod_trader_98 (fun h98 => ?_) (fun h98 => ?_)
                  · have n98 := Nat.not_lt.mpr h98
                    refine r_aload_n rfl 134 rfl d_Mod_trader_133 ?_
                    refine r_dup rfl 135 rfl d_Mod_trader_134 ?_
                    refine r_getf (v := .int (nI (ν 0))) gf_Mod_111 0 rfl rfl 138 rfl d_Mod_trader_135 ?_
                    refine r_dup_x1 rfl rfl 139 rfl d_Mod_trader_138 ?_
                    refine r_iconst (nI 1) rfl 140 rfl d_Mod_trader_139 ?_
                    refine r_iadd 141 rfl d_Mod_trader_140 ?_
                    refine r_topi (nI ((ν 0) + 1)) (nI_add _ _) ?_
                    refine r_putf (w2 := MW X a (u1 ν 0 ((ν 0) + 1)) (u2 (u2 (u2 σ 1 (upd (σ 1) (ν 0) k)) 2 (upd (σ 2) (ν 0) v)) 3 (upd (σ 3) (ν 0) (nI 100))) τ) pf_Mod_111 0 rfl (rfl) rfl (Nat.le_of_ble_eq_true rfl) rfl 144 rfl d_Mod_trader_141 ?_
                    exact r_iret rfl (Nat.zero_le _) (Nat.zero_le _) d_Mod_trader_144 (by rw [← hQ]; exact ⟨by simp [R_trader, b_trader, h7, h19, h31, hi, h70, n70, hq, h98, n98], by first | (simp [R_trader, b_trader, h7, h19, h31, hi, h70, n70, hq, h98, n98, u2_self, u1_self]; done) | (simp [R_trader, b_trader, h7, h19, h31, hi, h70, n70, hq, h98, n98, u2_self, u1_self]; rw [← n98, u1_self])⟩)
                  · have n98 := Nat.not_le.mpr h98
                    refine r_aload_n rfl 102 rfl d_Mod_trader_101 ?_
                    refine r_getf (v := .ref (a 5)) gf_Mod_24 0 rfl rfl 105 rfl d_Mod_trader_102 ?_
                    refine r_bipush (nI 6) rfl 107 rfl d_Mod_trader_105 ?_
                    refine r_iload_n rfl 108 rfl d_Mod_trader_107 ?_
                    refine r_imul 109 rfl d_Mod_trader_108 ?_
                    refine r_topi (nI (6 * (ν 0))) (pk_mul _ _) ?_
                    refine r_iload rfl 111 rfl d_Mod_trader_109 ?_
                    refine r_iadd 112 rfl d_Mod_trader_111 ?_
                    refine r_topi (nI ((6 * (ν 0)) + q)) (nI_add _ _) ?_
                    refine r_iconst (nI 0) rfl 113 rfl d_Mod_trader_112 ?_
                    refine r_iast (w2 := MW X a ν (u2 (u2 (u2 (u2 σ 1 (upd (σ 1) (ν 0) k)) 2 (upd (σ 2) (ν 0) v)) 3 (upd (σ 3) (ν 0) (nI 100))) 5 (upd (σ 5) ((6 * (ν 0)) + q) (nI 0))) τ) 5 rfl ((6 * (ν 0)) + q) rfl (by omega) (by omega) rfl 114 rfl d_Mod_trader_113 ?_
                    refine r_aload_n rfl 115 rfl d_Mod_trader_114 ?_
                    refine r_getf (v := .ref (a 5)) gf_Mod_24 0 rfl rfl 118 rfl d_Mod_trader_115 ?_
                    refine r_bipush (nI 6) rfl 120 rfl d_Mod_trader_118 ?_
                    refine r_iload rfl 122 rfl d_Mod_trader_120 ?_
                    refine r_imul 123 rfl d_Mod_trader_122 ?_
                    refine r_topi (nI (6 * q)) (pk_mul _ _) ?_
                    refine r_iload_n rfl 124 rfl d_Mod_trader_123 ?_
                    refine r_iadd 125 rfl d_Mod_trader_124 ?_
                    refine r_topi (nI ((6 * q) + (ν 0))) (nI_add _ _) ?_
                    refine r_iconst (nI 0) rfl 126 rfl d_Mod_trader_125 ?_
                    refine r_iast (w2 := MW X a ν (u2 (u2 (u2 (u2 (u2 σ 1 (upd (σ 1) (ν 0) k)) 2 (upd (σ 2) (ν 0) v)) 3 (upd (σ 3) (ν 0) (nI 100))) 5 (upd (σ 5) ((6 * (ν 0)) + q) (nI 0))) 5 (upd (upd (σ 5) ((6 * (ν 0)) + q) (nI 0)) ((6 * q) + (ν 0)) (nI 0))) τ) 5 rfl ((6 * q) + (ν 0)) rfl (by omega) (by omega) rfl 127 rfl d_Mod_trader_126 ?_
                    refine r_iinc (ls2 := [some (.ref (a 0)), some (.int k), some (.int v), some (.int (nI (ν 0))), some (.int (nI (q + 1)))]) (nI (q + 1)) rfl (nI_1 _) 130 rfl d_Mod_trader_127 (by decide) rfl rfl ?_
                    refine r_goto 94 rfl d_Mod_trader_130 ?_
                    refine Runs.cast (ih4 (q + 1) (by omega) (by omega)) (rfl) rfl (by rw [u2_u2, upd_same (hz5 q (by omega)).1, upd_same (hz5 q (by omega)).2]; exact congrArg (fun z => MW X a ν z τ) (u2_self (σ := u2 (u2 (u2 σ 1 (upd (σ 1) (ν 0) k)) 2 (upd (σ 2) (ν 0) v)) 3 (upd (σ 3) (ν 0) (nI 100))) (k := 5)); try rfl)
              exact L94_3 _ 0 (Nat.zero_le _) (Nat.lt_succ_self _)
            · have n70 := Nat.not_le.mpr h70
              refine r_aload_n rfl 74 rfl d_Mod_trader_73 ?_
              refine r_getf (v := .ref (a 4)) gf_Mod_21 0 rfl rfl 77 rfl d_Mod_trader_74 ?_
              refine r_iconst (nI 4) rfl 78 rfl d_Mod_trader_77 ?_
              refine r_iload_n rfl 79 rfl d_Mod_trader_78 ?_
              refine r_imul 80 rfl d_Mod_trader_79 ?_
              refine r_topi (nI (4 * (ν 0))) (pk_mul _ _) ?_
              refine r_iload rfl 82 rfl d_Mod_trader_80 ?_
              refine r_iadd 83 rfl d_Mod_trader_82 ?_
              refine r_topi (nI ((4 * (ν 0)) + i)) (nI_add _ _) ?_
              refine r_iconst (nI 0) rfl 84 rfl d_Mod_trader_83 ?_
              refine r_iast (w2 := MW X a ν (u2 (u2 (u2 (u2 σ 1 (upd (σ 1) (ν 0) k)) 2 (upd (σ 2) (ν 0) v)) 3 (upd (σ 3) (ν 0) (nI 100))) 4 (upd (σ 4) ((4 * (ν 0)) + i) (nI 0))) τ) 4 rfl ((4 * (ν 0)) + i) rfl (by omega) (by omega) rfl 85 rfl d_Mod_trader_84 ?_
              refine r_iinc (ls2 := [some (.ref (a 0)), some (.int k), some (.int v), some (.int (nI (ν 0))), some (.int (nI (i + 1)))]) (nI (i + 1)) rfl (nI_1 _) 88 rfl d_Mod_trader_85 (by decide) rfl rfl ?_
              refine r_goto 67 rfl d_Mod_trader_88 ?_
              refine Runs.cast (ih2 (i + 1) (by omega) (by omega)) (rfl) rfl (by rw [upd_same (hz4 i (by omega))]; exact congrArg (fun z => MW X a ν z τ) (u2_self (σ := u2 (u2 (u2 σ 1 (upd (σ 1) (ν 0) k)) 2 (upd (σ 2) (ν 0) v)) 3 (upd (σ 3) (ν 0) (nI 100))) (k := 4)); try rfl)
        exact L67_1 _ 0 (Nat.zero_le _) (Nat.lt_succ_self _)
      · refine r_bipush ((-4)) rfl 36 rfl d_Mod_trader_34 ?_
        exact r_iret rfl (Nat.zero_le _) (Nat.zero_le _) d_Mod_trader_36 (by rw [← hQ]; exact ⟨by simp [R_trader, b_trader, h7, h19, h31], by first | (simp [R_trader, b_trader, h7, h19, h31, u2_self, u1_self]; done) | (simp [R_trader, b_trader, h7, h19, h31, u2_self, u1_self]; rw [← h31, u1_self])⟩)
    · refine r_bipush ((-2)) rfl 24 rfl d_Mod_trader_22 ?_
      exact r_iret rfl (Nat.zero_le _) (Nat.zero_le _) d_Mod_trader_24 (by rw [← hQ]; exact ⟨by simp [R_trader, b_trader, h7, h19], by first | (simp [R_trader, b_trader, h7, h19, u2_self, u1_self]; done) | (simp [R_trader, b_trader, h7, h19, u2_self, u1_self]; rw [← h19, u1_self])⟩)
  · refine r_iconst ((-1)) rfl 11 rfl d_Mod_trader_10 ?_
    exact r_iret rfl (Nat.zero_le _) (Nat.zero_le _) d_Mod_trader_11 (by rw [← hQ]; exact ⟨by simp [R_trader, b_trader, h7], by first | (simp [R_trader, b_trader, h7, u2_self, u1_self]; done) | (simp [R_trader, b_trader, h7, u2_self, u1_self]; rw [← h7, u1_self])⟩)
theorem c_Mod_see (X : Xn) (a ν : Nat → Nat) (σ : Nat → Nat → Int32) (τ : Nat → Int64) (hn6 : ν 0 ≤ 6) (hs5 : ν 23 ≤ 5) (p q s x y : Int32) : Does X 4 M_Mod_see [.ref (a 0), .int p, .int q, .int s, .int x, .int y] (MW X a ν σ τ) 0 0 (fun (vv : Option Value) (ww : va_W) => vv = some (.int (R_see (ν 0) (ν 23) p q s x y)) ∧ ww = MW X a (u1 ν 23 (N_see (ν 0) (ν 23) p q s x y)) (if b_see (ν 0) (ν 23) p q s x y = true then u2 (u2 (u2 (u2 (u2 (σ) 24 (upd (σ 24) (ν 23) p)) 25 (upd (σ 25) (ν 23) q)) 26 (upd (σ 26) (ν 23) s)) 27 (upd (σ 27) (ν 23) x)) 28 (upd (σ 28) (ν 23) y) else σ) τ) := by
  generalize hQ : (fun (vv : Option Value) (ww : va_W) => vv = some (.int (R_see (ν 0) (ν 23) p q s x y)) ∧ ww = MW X a (u1 ν 23 (N_see (ν 0) (ν 23) p q s x y)) (if b_see (ν 0) (ν 23) p q s x y = true then u2 (u2 (u2 (u2 (u2 (σ) 24 (upd (σ 24) (ν 23) p)) 25 (upd (σ 25) (ν 23) q)) 26 (upd (σ 26) (ν 23) s)) 27 (upd (σ 27) (ν 23) x)) 28 (upd (σ 28) (ν 23) y) else σ) τ) = Q
  refine Does.go rfl (Nat.le_of_ble_eq_true rfl) [some (.ref (a 0)), some (.int p), some (.int q), some (.int s), some (.int x), some (.int y)] 0 rfl ?_
  refine r_iload_n rfl 1 rfl d_Mod_see_0 ?_
  refine r_iconst ((-1)) rfl 2 rfl d_Mod_see_1 ?_
  refine r_icmp_ne 5 12 rfl rfl d_Mod_see_2 (fun h2 => ?_) (fun h2 => ?_)
  · refine r_aload_n rfl 13 rfl d_Mod_see_12 ?_
    refine r_iload_n rfl 14 rfl d_Mod_see_13 ?_
    refine r_iload_n rfl 15 rfl d_Mod_see_14 ?_
    refine r_callVA1 (st2 := [.int (bI (isB (ν 0) p && isB (ν 0) q))]) (w2 := MW X a ν σ τ) lk_Mod_are ln_Mod_140 (c_Mod_are X a ν σ τ p q) (by first | decide | omega) rfl rfl (Nat.le_of_ble_eq_true rfl) (Nat.le_of_ble_eq_true rfl) (Nat.le_of_ble_eq_true rfl) 0 rfl rfl rfl rfl 18 rfl d_Mod_see_15 ?_
    refine r_if_neB 21 23 rfl rfl d_Mod_see_18 (fun h18 => ?_) (fun h18 => ?_)
    · obtain ⟨pN, qN, hpN, hqN, rfl, rfl⟩ := are_t hn6 h18
      have epN : cn (nI pN) = pN := cn_nI (by omega)
      have mpN : ¬ nI pN = -1 := m1n (by omega)
      have eqN : cn (nI qN) = qN := cn_nI (by omega)
      have mqN : ¬ nI qN = -1 := m1n (by omega)
      have bpN := isB_of hn6 hpN
      have bqN := isB_of hn6 hqN
      have epq : (nI pN = nI qN) = (pN = qN) := propext (nI_eq (by omega) (by omega))
      refine r_iload_n rfl 24 rfl d_Mod_see_23 ?_
      refine r_iload_n rfl 25 rfl d_Mod_see_24 ?_
      refine r_icmp_eqN pN qN (by omega) (by omega) 28 58 rfl rfl d_Mod_see_25 (fun h25 => ?_) (fun h25 => ?_)
      · refine r_bipush ((-2)) rfl 60 rfl d_Mod_see_58 ?_
        exact r_iret rfl (Nat.zero_le _) (Nat.zero_le _) d_Mod_see_60 (by rw [← hQ]; exact ⟨by simp [R_see, b_see, N_see, h2, h18, epN, mpN, eqN, mqN, bpN, bqN, epq, h25], by first | (simp [R_see, b_see, N_see, h2, h18, epN, mpN, eqN, mqN, bpN, bqN, epq, h25, u2_self, u1_self]; done) | (simp [R_see, b_see, N_see, h2, h18, epN, mpN, eqN, mqN, bpN, bqN, epq, h25, u2_self, u1_self]; rw [← h25, u1_self])⟩)
      · refine r_iload_n rfl 29 rfl d_Mod_see_28 ?_
        refine r_callS1 (st2 := [.int (bI (inR s (nI 0) (nI 99)))]) (w2 := MW X a ν σ τ) lk_Mod_isSqueeze ln_Mod_237 (c_Mod_isSqueeze X s) (by first | decide | omega) rfl rfl (Nat.le_of_ble_eq_true rfl) (Nat.le_of_ble_eq_true rfl) (Nat.le_of_ble_eq_true rfl) [] rfl rfl rfl rfl rfl 32 rfl d_Mod_see_29 ?_
        refine r_if_eqB 35 58 rfl rfl d_Mod_see_32 (fun h32 => ?_) (fun h32 => ?_)
        · refine r_bipush ((-2)) rfl 60 rfl d_Mod_see_58 ?_
          exact r_iret rfl (Nat.zero_le _) (Nat.zero_le _) d_Mod_see_60 (by rw [← hQ]; exact ⟨by simp [R_see, b_see, N_see, h2, h18, epN, mpN, eqN, mqN, bpN, bqN, epq, h25, h32], by first | (simp [R_see, b_see, N_see, h2, h18, epN, mpN, eqN, mqN, bpN, bqN, epq, h25, h32, u2_self, u1_self]; done) | (simp [R_see, b_see, N_see, h2, h18, epN, mpN, eqN, mqN, bpN, bqN, epq, h25, h32, u2_self, u1_self]; rw [← h32, u1_self])⟩)
        · obtain ⟨sN, hsN, rfl⟩ := inR_t (by decide) h32
          have esN : cn (nI sN) = sN := cn_nI (by omega)
          have msN : ¬ nI sN = -1 := m1n (by omega)
          refine r_iload rfl 37 rfl d_Mod_see_35 ?_
          refine r_iconst (nI 0) rfl 38 rfl d_Mod_see_37 ?_
          refine r_bipush (nI 20) rfl 40 rfl d_Mod_see_38 ?_
          refine r_callS1 (st2 := [.int (bI (inR x (nI 0) (nI 20)))]) (w2 := MW X a ν σ τ) lk_Mod_within ln_Mod_114 (c_Mod_within X x (nI 0) (nI 20)) (by first | decide | omega) rfl rfl (Nat.le_of_ble_eq_true rfl) (Nat.le_of_ble_eq_true rfl) (Nat.le_of_ble_eq_true rfl) [] rfl rfl rfl rfl rfl 43 rfl d_Mod_see_40 ?_
          refine r_if_eqB 46 58 rfl rfl d_Mod_see_43 (fun h43 => ?_) (fun h43 => ?_)
          · refine r_bipush ((-2)) rfl 60 rfl d_Mod_see_58 ?_
            exact r_iret rfl (Nat.zero_le _) (Nat.zero_le _) d_Mod_see_60 (by rw [← hQ]; exact ⟨by simp [R_see, b_see, N_see, h2, h18, epN, mpN, eqN, mqN, bpN, bqN, epq, h25, h32, esN, msN, h43], by first | (simp [R_see, b_see, N_see, h2, h18, epN, mpN, eqN, mqN, bpN, bqN, epq, h25, h32, esN, msN, h43, u2_self, u1_self]; done) | (simp [R_see, b_see, N_see, h2, h18, epN, mpN, eqN, mqN, bpN, bqN, epq, h25, h32, esN, msN, h43, u2_self, u1_self]; rw [← h43, u1_self])⟩)
          · obtain ⟨xN, hxN, rfl⟩ := inR_t (by decide) h43
            have exN : cn (nI xN) = xN := cn_nI (by omega)
            have mxN : ¬ nI xN = -1 := m1n (by omega)
            refine r_iload rfl 48 rfl d_Mod_see_46 ?_
            refine r_iconst (nI 0) rfl 49 rfl d_Mod_see_48 ?_
            refine r_sipush (nI 999) rfl 52 rfl d_Mod_see_49 ?_
            refine r_callS1 (st2 := [.int (bI (inR y (nI 0) (nI 999)))]) (w2 := MW X a ν σ τ) lk_Mod_within ln_Mod_114 (c_Mod_within X y (nI 0) (nI 999)) (by first | decide | omega) rfl rfl (Nat.le_of_ble_eq_true rfl) (Nat.le_of_ble_eq_true rfl) (Nat.le_of_ble_eq_true rfl) [] rfl rfl rfl rfl rfl 55 rfl d_Mod_see_52 ?_
            refine r_if_neB 58 61 rfl rfl d_Mod_see_55 (fun h55 => ?_) (fun h55 => ?_)
            · obtain ⟨yN, hyN, rfl⟩ := inR_t (by decide) h55
              have eyN : cn (nI yN) = yN := cn_nI (by omega)
              have myN : ¬ nI yN = -1 := m1n (by omega)
              refine r_aload_n rfl 62 rfl d_Mod_see_61 ?_
              refine r_getf (v := .int (nI (ν 23))) gf_Mod_297 0 rfl rfl 65 rfl d_Mod_see_62 ?_
              refine r_iconst (nI 5) rfl 66 rfl d_Mod_see_65 ?_
              refine r_icmp_neN (ν 23) 5 (by omega) (by omega) 69 72 rfl rfl d_Mod_see_66 (fun h66 => ?_) (fun h66 => ?_)
              · refine r_aload_n rfl 73 rfl d_Mod_see_72 ?_
                refine r_getf (v := .ref (a 24)) gf_Mod_52 0 rfl rfl 76 rfl d_Mod_see_73 ?_
                refine r_aload_n rfl 77 rfl d_Mod_see_76 ?_
                refine r_getf (v := .int (nI (ν 23))) gf_Mod_297 0 rfl rfl 80 rfl d_Mod_see_77 ?_
                refine r_iload_n rfl 81 rfl d_Mod_see_80 ?_
                refine r_iast (w2 := MW X a ν (u2 σ 24 (upd (σ 24) (ν 23) (nI pN))) τ) 14 rfl (ν 23) rfl (by omega) (by omega) rfl 82 rfl d_Mod_see_81 ?_
                refine r_aload_n rfl 83 rfl d_Mod_see_82 ?_
                refine r_getf (v := .ref (a 25)) gf_Mod_55 0 rfl rfl 86 rfl d_Mod_see_83 ?_
                refine r_aload_n rfl 87 rfl d_Mod_see_86 ?_
                refine r_getf (v := .int (nI (ν 23))) gf_Mod_297 0 rfl rfl 90 rfl d_Mod_see_87 ?_
                refine r_iload_n rfl 91 rfl d_Mod_see_90 ?_
                refine r_iast (w2 := MW X a ν (u2 (u2 σ 24 (upd (σ 24) (ν 23) (nI pN))) 25 (upd (σ 25) (ν 23) (nI qN))) τ) 15 rfl (ν 23) rfl (by omega) (by omega) rfl 92 rfl d_Mod_see_91 ?_
                refine r_aload_n rfl 93 rfl d_Mod_see_92 ?_
                refine r_getf (v := .ref (a 26)) gf_Mod_58 0 rfl rfl 96 rfl d_Mod_see_93 ?_
                refine r_aload_n rfl 97 rfl d_Mod_see_96 ?_
                refine r_getf (v := .int (nI (ν 23))) gf_Mod_297 0 rfl rfl 100 rfl d_Mod_see_97 ?_
                refine r_iload_n rfl 101 rfl d_Mod_see_100 ?_
                refine r_iast (w2 := MW X a ν (u2 (u2 (u2 σ 24 (upd (σ 24) (ν 23) (nI pN))) 25 (upd (σ 25) (ν 23) (nI qN))) 26 (upd (σ 26) (ν 23) (nI sN))) τ) 16 rfl (ν 23) rfl (by omega) (by omega) rfl 102 rfl d_Mod_see_101 ?_
                refine r_aload_n rfl 103 rfl d_Mod_see_102 ?_
                refine r_getf (v := .ref (a 27)) gf_Mod_61 0 rfl rfl 106 rfl d_Mod_see_103 ?_
                refine r_aload_n rfl 107 rfl d_Mod_see_106 ?_
                refine r_getf (v := .int (nI (ν 23))) gf_Mod_297 0 rfl rfl 110 rfl d_Mod_see_107 ?_
                refine r_iload rfl 112 rfl d_Mod_see_110 ?_
                refine r_iast (w2 := MW X a ν (u2 (u2 (u2 (u2 σ 24 (upd (σ 24) (ν 23) (nI pN))) 25 (upd (σ 25) (ν 23) (nI qN))) 26 (upd (σ 26) (ν 23) (nI sN))) 27 (upd (σ 27) (ν 23) (nI xN))) τ) 17 rfl (ν 23) rfl (by omega) (by omega) rfl 113 rfl d_Mod_see_112 ?_
                refine r_aload_n rfl 114 rfl d_Mod_see_113 ?_
                refine r_getf (v := .ref (a 28)) gf_Mod_64 0 rfl rfl 117 rfl d_Mod_see_114 ?_
                refine r_aload_n rfl 118 rfl d_Mod_see_117 ?_
                refine r_dup rfl 119 rfl d_Mod_see_118 ?_
                refine r_getf (v := .int (nI (ν 23))) gf_Mod_297 0 rfl rfl 122 rfl d_Mod_see_119 ?_
                refine r_dup_x1 rfl rfl 123 rfl d_Mod_see_122 ?_
                refine r_iconst (nI 1) rfl 124 rfl d_Mod_see_123 ?_
                refine r_iadd 125 rfl d_Mod_see_124 ?_
                refine r_topi (nI ((ν 23) + 1)) (nI_add _ _) ?_
                refine r_putf (w2 := MW X a (u1 ν 23 ((ν 23) + 1)) (u2 (u2 (u2 (u2 σ 24 (upd (σ 24) (ν 23) (nI pN))) 25 (upd (σ 25) (ν 23) (nI qN))) 26 (upd (σ 26) (ν 23) (nI sN))) 27 (upd (σ 27) (ν 23) (nI xN))) τ) pf_Mod_297 0 rfl (rfl) rfl (Nat.le_of_ble_eq_true rfl) rfl 128 rfl d_Mod_see_125 ?_
                refine r_iload rfl 130 rfl d_Mod_see_128 ?_
                refine r_iast (w2 := MW X a (u1 ν 23 ((ν 23) + 1)) (u2 (u2 (u2 (u2 (u2 σ 24 (upd (σ 24) (ν 23) (nI pN))) 25 (upd (σ 25) (ν 23) (nI qN))) 26 (upd (σ 26) (ν 23) (nI sN))) 27 (upd (σ 27) (ν 23) (nI xN))) 28 (upd (σ 28) (ν 23) (nI yN))) τ) 18 rfl (ν 23) rfl (by omega) (by omega) rfl 131 rfl d_Mod_see_130 ?_
                refine r_aload_n rfl 132 rfl d_Mod_see_131 ?_
                refine r_getf (v := .int (nI ((ν 23) + 1))) gf_Mod_297 0 rfl rfl 135 rfl d_Mod_see_132 ?_
                exact r_iret rfl (Nat.zero_le _) (Nat.zero_le _) d_Mod_see_135 (by rw [← hQ]; exact ⟨by simp [R_see, b_see, N_see, h2, h18, epN, mpN, eqN, mqN, bpN, bqN, epq, h25, h32, esN, msN, h43, exN, mxN, h55, eyN, myN, h66], by first | (simp [R_see, b_see, N_see, h2, h18, epN, mpN, eqN, mqN, bpN, bqN, epq, h25, h32, esN, msN, h43, exN, mxN, h55, eyN, myN, h66, u2_self, u1_self]; done) | (simp [R_see, b_see, N_see, h2, h18, epN, mpN, eqN, mqN, bpN, bqN, epq, h25, h32, esN, msN, h43, exN, mxN, h55, eyN, myN, h66, u2_self, u1_self]; rw [← h66, u1_self])⟩)
              · refine r_bipush ((-4)) rfl 71 rfl d_Mod_see_69 ?_
                exact r_iret rfl (Nat.zero_le _) (Nat.zero_le _) d_Mod_see_71 (by rw [← hQ]; exact ⟨by simp [R_see, b_see, N_see, h2, h18, epN, mpN, eqN, mqN, bpN, bqN, epq, h25, h32, esN, msN, h43, exN, mxN, h55, eyN, myN, h66], by first | (simp [R_see, b_see, N_see, h2, h18, epN, mpN, eqN, mqN, bpN, bqN, epq, h25, h32, esN, msN, h43, exN, mxN, h55, eyN, myN, h66, u2_self, u1_self]; done) | (simp [R_see, b_see, N_see, h2, h18, epN, mpN, eqN, mqN, bpN, bqN, epq, h25, h32, esN, msN, h43, exN, mxN, h55, eyN, myN, h66, u2_self, u1_self]; rw [← h66, u1_self])⟩)
            · refine r_bipush ((-2)) rfl 60 rfl d_Mod_see_58 ?_
              exact r_iret rfl (Nat.zero_le _) (Nat.zero_le _) d_Mod_see_60 (by rw [← hQ]; exact ⟨by simp [R_see, b_see, N_see, h2, h18, epN, mpN, eqN, mqN, bpN, bqN, epq, h25, h32, esN, msN, h43, exN, mxN, h55], by first | (simp [R_see, b_see, N_see, h2, h18, epN, mpN, eqN, mqN, bpN, bqN, epq, h25, h32, esN, msN, h43, exN, mxN, h55, u2_self, u1_self]; done) | (simp [R_see, b_see, N_see, h2, h18, epN, mpN, eqN, mqN, bpN, bqN, epq, h25, h32, esN, msN, h43, exN, mxN, h55, u2_self, u1_self]; rw [← h55, u1_self])⟩)
    · refine r_iconst ((-1)) rfl 22 rfl d_Mod_see_21 ?_
      exact r_iret rfl (Nat.zero_le _) (Nat.zero_le _) d_Mod_see_22 (by rw [← hQ]; exact ⟨by simp [R_see, b_see, N_see, h2, h18], by first | (simp [R_see, b_see, N_see, h2, h18, u2_self, u1_self]; done) | (simp [R_see, b_see, N_see, h2, h18, u2_self, u1_self]; rw [← h18, u1_self])⟩)
  · refine r_aload_n rfl 6 rfl d_Mod_see_5 ?_
    refine r_iconst (nI 0) rfl 7 rfl d_Mod_see_6 ?_
    refine r_putf (w2 := MW X a (u1 ν 23 0) σ τ) pf_Mod_297 0 rfl (rfl) rfl (Nat.le_of_ble_eq_true rfl) rfl 10 rfl d_Mod_see_7 ?_
    refine r_iconst (nI 0) rfl 11 rfl d_Mod_see_10 ?_
    exact r_iret rfl (Nat.zero_le _) (Nat.zero_le _) d_Mod_see_11 (by rw [← hQ]; exact ⟨by simp [R_see, b_see, N_see, h2], by first | (simp [R_see, b_see, N_see, h2, u2_self, u1_self]; done) | (simp [R_see, b_see, N_see, h2, u2_self, u1_self]; rw [← h2, u1_self])⟩)
theorem c_Mod_book (X : Xn) (a ν : Nat → Nat) (σ : Nat → Nat → Int32) (τ : Nat → Int64) (hn6 : ν 0 ≤ 6) (hs8 : ν 32 ≤ 8) (p q x : Int32) : Does X 4 M_Mod_book [.ref (a 0), .int p, .int q, .int x] (MW X a ν σ τ) 0 0 (fun (vv : Option Value) (ww : va_W) => vv = some (.int (R_book (ν 0) (ν 32) p q x)) ∧ ww = MW X a (u1 ν 32 (N_book (ν 0) (ν 32) p q x)) (if b_book (ν 0) (ν 32) p q x = true then u2 (u2 (u2 (σ) 33 (upd (σ 33) (ν 32) p)) 34 (upd (σ 34) (ν 32) q)) 35 (upd (σ 35) (ν 32) x) else σ) τ) := by
  generalize hQ : (fun (vv : Option Value) (ww : va_W) => vv = some (.int (R_book (ν 0) (ν 32) p q x)) ∧ ww = MW X a (u1 ν 32 (N_book (ν 0) (ν 32) p q x)) (if b_book (ν 0) (ν 32) p q x = true then u2 (u2 (u2 (σ) 33 (upd (σ 33) (ν 32) p)) 34 (upd (σ 34) (ν 32) q)) 35 (upd (σ 35) (ν 32) x) else σ) τ) = Q
  refine Does.go rfl (Nat.le_of_ble_eq_true rfl) [some (.ref (a 0)), some (.int p), some (.int q), some (.int x)] 0 rfl ?_
  refine r_iload_n rfl 1 rfl d_Mod_book_0 ?_
  refine r_iconst ((-1)) rfl 2 rfl d_Mod_book_1 ?_
  refine r_icmp_ne 5 12 rfl rfl d_Mod_book_2 (fun h2 => ?_) (fun h2 => ?_)
  · refine r_aload_n rfl 13 rfl d_Mod_book_12 ?_
    refine r_iload_n rfl 14 rfl d_Mod_book_13 ?_
    refine r_iload_n rfl 15 rfl d_Mod_book_14 ?_
    refine r_callVA1 (st2 := [.int (bI (isB (ν 0) p && isB (ν 0) q))]) (w2 := MW X a ν σ τ) lk_Mod_are ln_Mod_140 (c_Mod_are X a ν σ τ p q) (by first | decide | omega) rfl rfl (Nat.le_of_ble_eq_true rfl) (Nat.le_of_ble_eq_true rfl) (Nat.le_of_ble_eq_true rfl) 0 rfl rfl rfl rfl 18 rfl d_Mod_book_15 ?_
    refine r_if_neB 21 23 rfl rfl d_Mod_book_18 (fun h18 => ?_) (fun h18 => ?_)
    · obtain ⟨pN, qN, hpN, hqN, rfl, rfl⟩ := are_t hn6 h18
      have epN : cn (nI pN) = pN := cn_nI (by omega)
      have mpN : ¬ nI pN = -1 := m1n (by omega)
      have eqN : cn (nI qN) = qN := cn_nI (by omega)
      have mqN : ¬ nI qN = -1 := m1n (by omega)
      have bpN := isB_of hn6 hpN
      have bqN := isB_of hn6 hqN
      have epq : (nI pN = nI qN) = (pN = qN) := propext (nI_eq (by omega) (by omega))
      refine r_iload_n rfl 24 rfl d_Mod_book_23 ?_
      refine r_iload_n rfl 25 rfl d_Mod_book_24 ?_
      refine r_icmp_eqN pN qN (by omega) (by omega) 28 39 rfl rfl d_Mod_book_25 (fun h25 => ?_) (fun h25 => ?_)
      · refine r_bipush ((-2)) rfl 41 rfl d_Mod_book_39 ?_
        exact r_iret rfl (Nat.zero_le _) (Nat.zero_le _) d_Mod_book_41 (by rw [← hQ]; exact ⟨by simp [R_book, b_book, N_book, h2, h18, epN, mpN, eqN, mqN, bpN, bqN, epq, h25], by first | (simp [R_book, b_book, N_book, h2, h18, epN, mpN, eqN, mqN, bpN, bqN, epq, h25, u2_self, u1_self]; done) | (simp [R_book, b_book, N_book, h2, h18, epN, mpN, eqN, mqN, bpN, bqN, epq, h25, u2_self, u1_self]; rw [← h25, u1_self])⟩)
      · refine r_iload_n rfl 29 rfl d_Mod_book_28 ?_
        refine r_iconst (nI 0) rfl 30 rfl d_Mod_book_29 ?_
        refine r_sipush (nI 9999) rfl 33 rfl d_Mod_book_30 ?_
        refine r_callS1 (st2 := [.int (bI (inR x (nI 0) (nI 9999)))]) (w2 := MW X a ν σ τ) lk_Mod_within ln_Mod_114 (c_Mod_within X x (nI 0) (nI 9999)) (by first | decide | omega) rfl rfl (Nat.le_of_ble_eq_true rfl) (Nat.le_of_ble_eq_true rfl) (Nat.le_of_ble_eq_true rfl) [] rfl rfl rfl rfl rfl 36 rfl d_Mod_book_33 ?_
        refine r_if_neB 39 42 rfl rfl d_Mod_book_36 (fun h36 => ?_) (fun h36 => ?_)
        · obtain ⟨xN, hxN, rfl⟩ := inR_t (by decide) h36
          have exN : cn (nI xN) = xN := cn_nI (by omega)
          have mxN : ¬ nI xN = -1 := m1n (by omega)
          refine r_aload_n rfl 43 rfl d_Mod_book_42 ?_
          refine r_getf (v := .int (nI (ν 32))) gf_Mod_319 0 rfl rfl 46 rfl d_Mod_book_43 ?_
          refine r_bipush (nI 8) rfl 48 rfl d_Mod_book_46 ?_
          refine r_icmp_neN (ν 32) 8 (by omega) (by omega) 51 54 rfl rfl d_Mod_book_48 (fun h48 => ?_) (fun h48 => ?_)
          · refine r_aload_n rfl 55 rfl d_Mod_book_54 ?_
            refine r_getf (v := .ref (a 33)) gf_Mod_73 0 rfl rfl 58 rfl d_Mod_book_55 ?_
            refine r_aload_n rfl 59 rfl d_Mod_book_58 ?_
            refine r_getf (v := .int (nI (ν 32))) gf_Mod_319 0 rfl rfl 62 rfl d_Mod_book_59 ?_
            refine r_iload_n rfl 63 rfl d_Mod_book_62 ?_
            refine r_iast (w2 := MW X a ν (u2 σ 33 (upd (σ 33) (ν 32) (nI pN))) τ) 21 rfl (ν 32) rfl (by omega) (by omega) rfl 64 rfl d_Mod_book_63 ?_
            refine r_aload_n rfl 65 rfl d_Mod_book_64 ?_
            refine r_getf (v := .ref (a 34)) gf_Mod_76 0 rfl rfl 68 rfl d_Mod_book_65 ?_
            refine r_aload_n rfl 69 rfl d_Mod_book_68 ?_
            refine r_getf (v := .int (nI (ν 32))) gf_Mod_319 0 rfl rfl 72 rfl d_Mod_book_69 ?_
            refine r_iload_n rfl 73 rfl d_Mod_book_72 ?_
            refine r_iast (w2 := MW X a ν (u2 (u2 σ 33 (upd (σ 33) (ν 32) (nI pN))) 34 (upd (σ 34) (ν 32) (nI qN))) τ) 22 rfl (ν 32) rfl (by omega) (by omega) rfl 74 rfl d_Mod_book_73 ?_
            refine r_aload_n rfl 75 rfl d_Mod_book_74 ?_
            refine r_getf (v := .ref (a 35)) gf_Mod_79 0 rfl rfl 78 rfl d_Mod_book_75 ?_
            refine r_aload_n rfl 79 rfl d_Mod_book_78 ?_
            refine r_dup rfl 80 rfl d_Mod_book_79 ?_
            refine r_getf (v := .int (nI (ν 32))) gf_Mod_319 0 rfl rfl 83 rfl d_Mod_book_80 ?_
            refine r_dup_x1 rfl rfl 84 rfl d_Mod_book_83 ?_
            refine r_iconst (nI 1) rfl 85 rfl d_Mod_book_84 ?_
            refine r_iadd 86 rfl d_Mod_book_85 ?_
            refine r_topi (nI ((ν 32) + 1)) (nI_add _ _) ?_
            refine r_putf (w2 := MW X a (u1 ν 32 ((ν 32) + 1)) (u2 (u2 σ 33 (upd (σ 33) (ν 32) (nI pN))) 34 (upd (σ 34) (ν 32) (nI qN))) τ) pf_Mod_319 0 rfl (rfl) rfl (Nat.le_of_ble_eq_true rfl) rfl 89 rfl d_Mod_book_86 ?_
            refine r_iload_n rfl 90 rfl d_Mod_book_89 ?_
            refine r_iast (w2 := MW X a (u1 ν 32 ((ν 32) + 1)) (u2 (u2 (u2 σ 33 (upd (σ 33) (ν 32) (nI pN))) 34 (upd (σ 34) (ν 32) (nI qN))) 35 (upd (σ 35) (ν 32) (nI xN))) τ) 23 rfl (ν 32) rfl (by omega) (by omega) rfl 91 rfl d_Mod_book_90 ?_
            refine r_aload_n rfl 92 rfl d_Mod_book_91 ?_
            refine r_getf (v := .int (nI ((ν 32) + 1))) gf_Mod_319 0 rfl rfl 95 rfl d_Mod_book_92 ?_
            exact r_iret rfl (Nat.zero_le _) (Nat.zero_le _) d_Mod_book_95 (by rw [← hQ]; exact ⟨by simp [R_book, b_book, N_book, h2, h18, epN, mpN, eqN, mqN, bpN, bqN, epq, h25, h36, exN, mxN, h48], by first | (simp [R_book, b_book, N_book, h2, h18, epN, mpN, eqN, mqN, bpN, bqN, epq, h25, h36, exN, mxN, h48, u2_self, u1_self]; done) | (simp [R_book, b_book, N_book, h2, h18, epN, mpN, eqN, mqN, bpN, bqN, epq, h25, h36, exN, mxN, h48, u2_self, u1_self]; rw [← h48, u1_self])⟩)
          · refine r_bipush ((-4)) rfl 53 rfl d_Mod_book_51 ?_
            exact r_iret rfl (Nat.zero_le _) (Nat.zero_le _) d_Mod_book_53 (by rw [← hQ]; exact ⟨by simp [R_book, b_book, N_book, h2, h18, epN, mpN, eqN, mqN, bpN, bqN, epq, h25, h36, exN, mxN, h48], by first | (simp [R_book, b_book, N_book, h2, h18, epN, mpN, eqN, mqN, bpN, bqN, epq, h25, h36, exN, mxN, h48, u2_self, u1_self]; done) | (simp [R_book, b_book, N_book, h2, h18, epN, mpN, eqN, mqN, bpN, bqN, epq, h25, h36, exN, mxN, h48, u2_self, u1_self]; rw [← h48, u1_self])⟩)
        · refine r_bipush ((-2)) rfl 41 rfl d_Mod_book_39 ?_
          exact r_iret rfl (Nat.zero_le _) (Nat.zero_le _) d_Mod_book_41 (by rw [← hQ]; exact ⟨by simp [R_book, b_book, N_book, h2, h18, epN, mpN, eqN, mqN, bpN, bqN, epq, h25, h36], by first | (simp [R_book, b_book, N_book, h2, h18, epN, mpN, eqN, mqN, bpN, bqN, epq, h25, h36, u2_self, u1_self]; done) | (simp [R_book, b_book, N_book, h2, h18, epN, mpN, eqN, mqN, bpN, bqN, epq, h25, h36, u2_self, u1_self]; rw [← h36, u1_self])⟩)
    · refine r_iconst ((-1)) rfl 22 rfl d_Mod_book_21 ?_
      exact r_iret rfl (Nat.zero_le _) (Nat.zero_le _) d_Mod_book_22 (by rw [← hQ]; exact ⟨by simp [R_book, b_book, N_book, h2, h18], by first | (simp [R_book, b_book, N_book, h2, h18, u2_self, u1_self]; done) | (simp [R_book, b_book, N_book, h2, h18, u2_self, u1_self]; rw [← h18, u1_self])⟩)
  · refine r_aload_n rfl 6 rfl d_Mod_book_5 ?_
    refine r_iconst (nI 0) rfl 7 rfl d_Mod_book_6 ?_
    refine r_putf (w2 := MW X a (u1 ν 32 0) σ τ) pf_Mod_319 0 rfl (rfl) rfl (Nat.le_of_ble_eq_true rfl) rfl 10 rfl d_Mod_book_7 ?_
    refine r_iconst (nI 0) rfl 11 rfl d_Mod_book_10 ?_
    exact r_iret rfl (Nat.zero_le _) (Nat.zero_le _) d_Mod_book_11 (by rw [← hQ]; exact ⟨by simp [R_book, b_book, N_book, h2], by first | (simp [R_book, b_book, N_book, h2, u2_self, u1_self]; done) | (simp [R_book, b_book, N_book, h2, u2_self, u1_self]; rw [← h2, u1_self])⟩)
theorem c_Mod_plan (X : Xn) (a ν : Nat → Nat) (σ : Nat → Nat → Int32) (τ : Nat → Int64) (hn6 : ν 0 ≤ 6) (hs10 : ν 29 ≤ 10) (w p : Int32) : Does X 4 M_Mod_plan [.ref (a 0), .int w, .int p] (MW X a ν σ τ) 0 0 (fun (vv : Option Value) (ww : va_W) => vv = some (.int (R_plan (ν 0) (ν 29) w p)) ∧ ww = MW X a (u1 ν 29 (N_plan (ν 0) (ν 29) w p)) (if b_plan (ν 0) (ν 29) w p = true then u2 (u2 σ 30 (upd (σ 30) (ν 29) w)) 31 (upd (σ 31) (ν 29) (if cn w = 0 then nI 0 else p)) else σ) τ) := by
  generalize hQ : (fun (vv : Option Value) (ww : va_W) => vv = some (.int (R_plan (ν 0) (ν 29) w p)) ∧ ww = MW X a (u1 ν 29 (N_plan (ν 0) (ν 29) w p)) (if b_plan (ν 0) (ν 29) w p = true then u2 (u2 σ 30 (upd (σ 30) (ν 29) w)) 31 (upd (σ 31) (ν 29) (if cn w = 0 then nI 0 else p)) else σ) τ) = Q
  refine Does.go rfl (Nat.le_of_ble_eq_true rfl) [some (.ref (a 0)), some (.int w), some (.int p)] 0 rfl ?_
  refine r_iload_n rfl 1 rfl d_Mod_plan_0 ?_
  refine r_iconst ((-1)) rfl 2 rfl d_Mod_plan_1 ?_
  refine r_icmp_ne 5 12 rfl rfl d_Mod_plan_2 (fun h2 => ?_) (fun h2 => ?_)
  · refine r_iload_n rfl 13 rfl d_Mod_plan_12 ?_
    refine r_iconst (nI 0) rfl 14 rfl d_Mod_plan_13 ?_
    refine r_iconst (nI 3) rfl 15 rfl d_Mod_plan_14 ?_
    refine r_callS1 (st2 := [.int (bI (inR w (nI 0) (nI 3)))]) (w2 := MW X a ν σ τ) lk_Mod_within ln_Mod_114 (c_Mod_within X w (nI 0) (nI 3)) (by first | decide | omega) rfl rfl (Nat.le_of_ble_eq_true rfl) (Nat.le_of_ble_eq_true rfl) (Nat.le_of_ble_eq_true rfl) [] rfl rfl rfl rfl rfl 18 rfl d_Mod_plan_15 ?_
    refine r_if_eqB 21 33 rfl rfl d_Mod_plan_18 (fun h18 => ?_) (fun h18 => ?_)
    · refine r_iconst ((-1)) rfl 34 rfl d_Mod_plan_33 ?_
      exact r_iret rfl (Nat.zero_le _) (Nat.zero_le _) d_Mod_plan_34 (by rw [← hQ]; exact ⟨by simp [R_plan, b_plan, N_plan, h2, h18], by first | (simp [R_plan, b_plan, N_plan, h2, h18, u2_self, u1_self]; done) | (simp [R_plan, b_plan, N_plan, h2, h18, u2_self, u1_self]; rw [← h18, u1_self])⟩)
    · obtain ⟨wN, hwN, rfl⟩ := inR_t (by decide) h18
      have ewN : cn (nI wN) = wN := cn_nI (by omega)
      have mwN : ¬ nI wN = -1 := m1n (by omega)
      refine r_iload_n rfl 22 rfl d_Mod_plan_21 ?_
      refine r_if_leN wN (by omega) 25 35 rfl rfl d_Mod_plan_22 (fun h22 => ?_) (fun h22 => ?_)
      · have n22 := Nat.not_lt.mpr h22
        obtain rfl : wN = 0 := by omega
        refine r_aload_n rfl 36 rfl d_Mod_plan_35 ?_
        refine r_getf (v := .int (nI (ν 29))) gf_Mod_312 0 rfl rfl 39 rfl d_Mod_plan_36 ?_
        refine r_bipush (nI 10) rfl 41 rfl d_Mod_plan_39 ?_
        refine r_icmp_neN (ν 29) 10 (by omega) (by omega) 44 47 rfl rfl d_Mod_plan_41 (fun h41 => ?_) (fun h41 => ?_)
        · refine r_aload_n rfl 48 rfl d_Mod_plan_47 ?_
          refine r_getf (v := .ref (a 30)) gf_Mod_67 0 rfl rfl 51 rfl d_Mod_plan_48 ?_
          refine r_aload_n rfl 52 rfl d_Mod_plan_51 ?_
          refine r_getf (v := .int (nI (ν 29))) gf_Mod_312 0 rfl rfl 55 rfl d_Mod_plan_52 ?_
          refine r_iload_n rfl 56 rfl d_Mod_plan_55 ?_
          refine r_iast (w2 := MW X a ν (u2 σ 30 (upd (σ 30) (ν 29) (nI 0))) τ) 19 rfl (ν 29) rfl (by omega) (by omega) rfl 57 rfl d_Mod_plan_56 ?_
          refine r_aload_n rfl 58 rfl d_Mod_plan_57 ?_
          refine r_getf (v := .ref (a 31)) gf_Mod_70 0 rfl rfl 61 rfl d_Mod_plan_58 ?_
          refine r_aload_n rfl 62 rfl d_Mod_plan_61 ?_
          refine r_dup rfl 63 rfl d_Mod_plan_62 ?_
          refine r_getf (v := .int (nI (ν 29))) gf_Mod_312 0 rfl rfl 66 rfl d_Mod_plan_63 ?_
          refine r_dup_x1 rfl rfl 67 rfl d_Mod_plan_66 ?_
          refine r_iconst (nI 1) rfl 68 rfl d_Mod_plan_67 ?_
          refine r_iadd 69 rfl d_Mod_plan_68 ?_
          refine r_topi (nI ((ν 29) + 1)) (nI_add _ _) ?_
          refine r_putf (w2 := MW X a (u1 ν 29 ((ν 29) + 1)) (u2 σ 30 (upd (σ 30) (ν 29) (nI 0))) τ) pf_Mod_312 0 rfl (rfl) rfl (Nat.le_of_ble_eq_true rfl) rfl 72 rfl d_Mod_plan_69 ?_
          refine r_iload_n rfl 73 rfl d_Mod_plan_72 ?_
          refine r_if_neN_f 0 (by omega) 76 rfl 80 rfl d_Mod_plan_73 (rfl) ?_
          refine r_iconst (nI 0) rfl 77 rfl d_Mod_plan_76 ?_
          refine r_goto 81 rfl d_Mod_plan_77 ?_
          refine r_iast (w2 := MW X a (u1 ν 29 ((ν 29) + 1)) (u2 (u2 σ 30 (upd (σ 30) (ν 29) (nI 0))) 31 (upd (σ 31) (ν 29) (nI 0))) τ) 20 rfl (ν 29) rfl (by omega) (by omega) rfl 82 rfl d_Mod_plan_81 ?_
          refine r_aload_n rfl 83 rfl d_Mod_plan_82 ?_
          refine r_getf (v := .int (nI ((ν 29) + 1))) gf_Mod_312 0 rfl rfl 86 rfl d_Mod_plan_83 ?_
          exact r_iret rfl (Nat.zero_le _) (Nat.zero_le _) d_Mod_plan_86 (by rw [← hQ]; exact ⟨by simp [R_plan, b_plan, N_plan, h2, h18, ewN, mwN, h41], by first | (simp [R_plan, b_plan, N_plan, h2, h18, ewN, mwN, h41, u2_self, u1_self]; done) | (simp [R_plan, b_plan, N_plan, h2, h18, ewN, mwN, h41, u2_self, u1_self]; rw [← h41, u1_self])⟩)
        · refine r_bipush ((-4)) rfl 46 rfl d_Mod_plan_44 ?_
          exact r_iret rfl (Nat.zero_le _) (Nat.zero_le _) d_Mod_plan_46 (by rw [← hQ]; exact ⟨by simp [R_plan, b_plan, N_plan, h2, h18, ewN, mwN, h41], by first | (simp [R_plan, b_plan, N_plan, h2, h18, ewN, mwN, h41, u2_self, u1_self]; done) | (simp [R_plan, b_plan, N_plan, h2, h18, ewN, mwN, h41, u2_self, u1_self]; rw [← h41, u1_self])⟩)
      · have n22 := Nat.not_le.mpr h22
        have hw0 : ¬ wN = 0 := by omega
        refine r_aload_n rfl 26 rfl d_Mod_plan_25 ?_
        refine r_iload_n rfl 27 rfl d_Mod_plan_26 ?_
        refine r_callVA1 (st2 := [.int (bI (isB (ν 0) p))]) (w2 := MW X a ν σ τ) lk_Mod_isOne ln_Mod_118 (c_Mod_isOne X a ν σ τ p) (by first | decide | omega) rfl rfl (Nat.le_of_ble_eq_true rfl) (Nat.le_of_ble_eq_true rfl) (Nat.le_of_ble_eq_true rfl) 0 rfl rfl rfl rfl 30 rfl d_Mod_plan_27 ?_
        refine r_if_neB 33 35 rfl rfl d_Mod_plan_30 (fun h30 => ?_) (fun h30 => ?_)
        · obtain ⟨pN, hpN, rfl⟩ := isB_t hn6 h30
          have epN : cn (nI pN) = pN := cn_nI (by omega)
          have mpN : ¬ nI pN = -1 := m1n (by omega)
          refine r_aload_n rfl 36 rfl d_Mod_plan_35 ?_
          refine r_getf (v := .int (nI (ν 29))) gf_Mod_312 0 rfl rfl 39 rfl d_Mod_plan_36 ?_
          refine r_bipush (nI 10) rfl 41 rfl d_Mod_plan_39 ?_
          refine r_icmp_neN (ν 29) 10 (by omega) (by omega) 44 47 rfl rfl d_Mod_plan_41 (fun h41 => ?_) (fun h41 => ?_)
          · refine r_aload_n rfl 48 rfl d_Mod_plan_47 ?_
            refine r_getf (v := .ref (a 30)) gf_Mod_67 0 rfl rfl 51 rfl d_Mod_plan_48 ?_
            refine r_aload_n rfl 52 rfl d_Mod_plan_51 ?_
            refine r_getf (v := .int (nI (ν 29))) gf_Mod_312 0 rfl rfl 55 rfl d_Mod_plan_52 ?_
            refine r_iload_n rfl 56 rfl d_Mod_plan_55 ?_
            refine r_iast (w2 := MW X a ν (u2 σ 30 (upd (σ 30) (ν 29) (nI wN))) τ) 19 rfl (ν 29) rfl (by omega) (by omega) rfl 57 rfl d_Mod_plan_56 ?_
            refine r_aload_n rfl 58 rfl d_Mod_plan_57 ?_
            refine r_getf (v := .ref (a 31)) gf_Mod_70 0 rfl rfl 61 rfl d_Mod_plan_58 ?_
            refine r_aload_n rfl 62 rfl d_Mod_plan_61 ?_
            refine r_dup rfl 63 rfl d_Mod_plan_62 ?_
            refine r_getf (v := .int (nI (ν 29))) gf_Mod_312 0 rfl rfl 66 rfl d_Mod_plan_63 ?_
            refine r_dup_x1 rfl rfl 67 rfl d_Mod_plan_66 ?_
            refine r_iconst (nI 1) rfl 68 rfl d_Mod_plan_67 ?_
            refine r_iadd 69 rfl d_Mod_plan_68 ?_
            refine r_topi (nI ((ν 29) + 1)) (nI_add _ _) ?_
            refine r_putf (w2 := MW X a (u1 ν 29 ((ν 29) + 1)) (u2 σ 30 (upd (σ 30) (ν 29) (nI wN))) τ) pf_Mod_312 0 rfl (rfl) rfl (Nat.le_of_ble_eq_true rfl) rfl 72 rfl d_Mod_plan_69 ?_
            refine r_iload_n rfl 73 rfl d_Mod_plan_72 ?_
            refine r_if_neN_t wN (by omega) 80 rfl d_Mod_plan_73 (hw0) ?_
            refine r_iload_n rfl 81 rfl d_Mod_plan_80 ?_
            refine r_iast (w2 := MW X a (u1 ν 29 ((ν 29) + 1)) (u2 (u2 σ 30 (upd (σ 30) (ν 29) (nI wN))) 31 (upd (σ 31) (ν 29) (nI pN))) τ) 20 rfl (ν 29) rfl (by omega) (by omega) rfl 82 rfl d_Mod_plan_81 ?_
            refine r_aload_n rfl 83 rfl d_Mod_plan_82 ?_
            refine r_getf (v := .int (nI ((ν 29) + 1))) gf_Mod_312 0 rfl rfl 86 rfl d_Mod_plan_83 ?_
            exact r_iret rfl (Nat.zero_le _) (Nat.zero_le _) d_Mod_plan_86 (by rw [← hQ]; exact ⟨by simp [R_plan, b_plan, N_plan, h2, h18, ewN, mwN, hw0, h30, epN, mpN, h41], by first | (simp [R_plan, b_plan, N_plan, h2, h18, ewN, mwN, hw0, h30, epN, mpN, h41, u2_self, u1_self]; done) | (simp [R_plan, b_plan, N_plan, h2, h18, ewN, mwN, hw0, h30, epN, mpN, h41, u2_self, u1_self]; rw [← h41, u1_self])⟩)
          · refine r_bipush ((-4)) rfl 46 rfl d_Mod_plan_44 ?_
            exact r_iret rfl (Nat.zero_le _) (Nat.zero_le _) d_Mod_plan_46 (by rw [← hQ]; exact ⟨by simp [R_plan, b_plan, N_plan, h2, h18, ewN, mwN, hw0, h30, epN, mpN, h41], by first | (simp [R_plan, b_plan, N_plan, h2, h18, ewN, mwN, hw0, h30, epN, mpN, h41, u2_self, u1_self]; done) | (simp [R_plan, b_plan, N_plan, h2, h18, ewN, mwN, hw0, h30, epN, mpN, h41, u2_self, u1_self]; rw [← h41, u1_self])⟩)
        · refine r_iconst ((-1)) rfl 34 rfl d_Mod_plan_33 ?_
          exact r_iret rfl (Nat.zero_le _) (Nat.zero_le _) d_Mod_plan_34 (by rw [← hQ]; exact ⟨by simp [R_plan, b_plan, N_plan, h2, h18, ewN, mwN, hw0, h30], by first | (simp [R_plan, b_plan, N_plan, h2, h18, ewN, mwN, hw0, h30, u2_self, u1_self]; done) | (simp [R_plan, b_plan, N_plan, h2, h18, ewN, mwN, hw0, h30, u2_self, u1_self]; rw [← h30, u1_self])⟩)
  · refine r_aload_n rfl 6 rfl d_Mod_plan_5 ?_
    refine r_iconst (nI 0) rfl 7 rfl d_Mod_plan_6 ?_
    refine r_putf (w2 := MW X a (u1 ν 29 0) σ τ) pf_Mod_312 0 rfl (rfl) rfl (Nat.le_of_ble_eq_true rfl) rfl 10 rfl d_Mod_plan_7 ?_
    refine r_iconst (nI 0) rfl 11 rfl d_Mod_plan_10 ?_
    exact r_iret rfl (Nat.zero_le _) (Nat.zero_le _) d_Mod_plan_11 (by rw [← hQ]; exact ⟨by simp [R_plan, b_plan, N_plan, h2], by first | (simp [R_plan, b_plan, N_plan, h2, u2_self, u1_self]; done) | (simp [R_plan, b_plan, N_plan, h2, u2_self, u1_self]; rw [← h2, u1_self])⟩)
end
section
/-! TAPES AND ACTS -/
theorem isB_tG {n : Nat} {p : Int32} (hn : n < 2 ^ 30) (h : isB n p = true) : ∃ P : Nat, P < n ∧ p = nI P := by
  simp only [isB, inR, Bool.and_eq_true, decide_eq_true_eq] at h
  rcases pk_ix p (n := n) (by omega) with h1 | h1 | h1
  · exact absurd h1 (Int32.not_lt.mpr h.1)
  · have a := Int32.le_iff_toInt_le.mp h1
    have b := Int32.le_iff_toInt_le.mp h.2
    rw [nI_toInt (by omega)] at a
    rw [nI_m1T (by omega)] at b
    omega
  · exact h1
def keptV (s : Int32) (v : Int64) : Int64 := if s = 0 then v.toInt32.toInt8.toInt32.toInt64 else if s = 1 then v.toInt32.toInt16.toInt32.toInt64 else if s = 2 then v.toInt32.toInt64 else if s = 3 then v else if v = 0 then 0 else 1
def b_tape (t s n : Int32) : Bool := inR t (nI 0) (nI 5) && (inR s (-1) (nI 4) && (decide (s < 0) || (decide (n ≤ nI 60) && decide (0 ≤ n))))
def R_tape (t s n : Int32) : Int32 := if inR t (nI 0) (nI 5) = true then (if inR s (-1) (nI 4) = true then (if s < 0 then nI 1 else if n ≤ nI 60 then (if 0 ≤ n then nI 1 else -14) else -2) else -2) else -1
def zeroL (τ : Nat → Int64) (b : Nat) : Nat → (Nat → Int64)
  | 0 => τ
  | k + 1 => vp_updL (zeroL τ b k) (b + k) 0
def b_item (so sz : Nat → Int32) (t i : Int32) : Bool := inR t (nI 0) (nI 5) && (decide (0 ≤ so (cn t)) && inR i (nI 0) (sz (cn t) - nI 1))
def R_item (so sz : Nat → Int32) (t i : Int32) : Int32 := if inR t (nI 0) (nI 5) = true then (if so (cn t) < 0 then -11 else if inR i (nI 0) (sz (cn t) - nI 1) = true then nI 1 else -13) else -1
def R_read (so sz : Nat → Int32) (τ : Nat → Int64) (t i : Int32) : Int64 := if b_item so sz t i = true then τ (60 * cn t + cn i) else (-9223372036854775808)
/-- a trace -/
abbrev Trc : Type := Nat × (Nat → Int32)
def rnT (s : Trc) (b : Nat) : Trc := (s.1 + 1, if s.1 < 20 then upd s.2 s.1 (nI b) else s.2)
theorem rn1 (s : Trc) (b : Nat) : (rnT s b).1 = s.1 + 1 := rfl
def abv (k : Nat) : Nat := if k = 4 then 1 else if k = 5 then 2 else if k = 6 then 3 else 0
def gr (p : Nat) (v : Int32) : Nat → Nat → Int32 → Trc → Int32 × Trc
  | 0, _, _, s => (0, s)
  | f + 1, k, x, s => if k = 2 then gr p v f 0 (x * nI 3) (rnT s 30) else if k = 4 then (-(gr p v f 1 x (rnT s 50)).1, (gr p v f 1 x (rnT s 50)).2) else if k = 6 then ((gr p v f 3 x (rnT s 71)).1 ^^^ v, (gr p v f 3 x (rnT s 71)).2) else if k = 0 then (x + nI p, rnT s 10) else gr p v f (abv k) x s
def le (p K : Nat) (v : Int32) : Nat → Nat → Int32 → Trc → Int32 × Trc
  | 0, _, _, s => (0, s)
  | f + 1, k, x, s => if k = 1 then ((le p K v f 0 x (rnT s 20)).1 ^^^ nI 6, (le p K v f 0 x (rnT s 20)).2) else if k = 4 then le p K v f 1 (x + nI 1) (rnT s 51) else if k = 6 then ((le p K v f 3 x (rnT s 70)).1 + (gr p v 7 3 (nI 2) (le p K v f 3 x (rnT s 70)).2).1, (gr p v 7 3 (nI 2) (le p K v f 3 x (rnT s 70)).2).2) else if k = 0 then ((gr p v 7 K x (rnT s 11)).1 - v, (gr p v 7 K x (rnT s 11)).2) else le p K v f (abv k) x s
def te (p K : Nat) (v : Int32) : Nat → Nat → Int32 → Trc → Int32 × Trc
  | 0, _, _, s => (0, s)
  | f + 1, k, x, s => if k = 3 then ((te p K v f 0 x (rnT s 40)).1 + (le p K v 7 K (nI 1) (te p K v f 0 x (rnT s 40)).2).1, (le p K v 7 K (nI 1) (te p K v f 0 x (rnT s 40)).2).2) else if k = 5 then te p K v f 2 (x - nI p) (rnT s 60) else if k = 0 then ((le p K v 7 K x (rnT s 12)).1 * nI 2, (le p K v 7 K x (rnT s 12)).2) else te p K v f (abv k) x s
theorem gr_cnt (p : Nat) (v : Int32) : ∀ (f k : Nat) (x : Int32) (s : Trc), (gr p v f k x s).2.1 ≤ s.1 + f := by
  intro f
  induction f with
  | zero => intro k x s; exact Nat.le_refl _
  | succ f ih =>
    intro k x s
    simp only [gr]
    have h1 := ih 0 (x * nI 3) (rnT s 30)
    have h2 := ih 1 x (rnT s 50)
    have h3 := ih 3 x (rnT s 71)
    have h4 := ih (abv k) x s
    simp only [rn1] at h1 h2 h3 h4 
    (repeat' split) <;> (try dsimp only) <;> (try rw [rn1]) <;> omega
theorem le_cnt (p K : Nat) (v : Int32) : ∀ (f k : Nat) (x : Int32) (s : Trc), (le p K v f k x s).2.1 ≤ s.1 + 16 * f := by
  intro f
  induction f with
  | zero => intro k x s; exact Nat.le_refl _
  | succ f ih =>
    intro k x s
    simp only [le]
    have h1 := ih 0 x (rnT s 20)
    have h2 := ih 1 (x + nI 1) (rnT s 51)
    have h3 := ih 3 x (rnT s 70)
    have h4 := ih (abv k) x s
    have h5 := gr_cnt p v 7 3 (nI 2) (le p K v f 3 x (rnT s 70)).2
    have h6 := gr_cnt p v 7 K x (rnT s 11)
    simp only [rn1] at h1 h2 h3 h4 h5 h6 
    (repeat' split) <;> (try dsimp only) <;> (try rw [rn1]) <;> omega
theorem te_cnt (p K : Nat) (v : Int32) : ∀ (f k : Nat) (x : Int32) (s : Trc), (te p K v f k x s).2.1 ≤ s.1 + 256 * f := by
  intro f
  induction f with
  | zero => intro k x s; exact Nat.le_refl _
  | succ f ih =>
    intro k x s
    simp only [te]
    have h1 := ih 0 x (rnT s 40)
    have h2 := ih 2 (x - nI p) (rnT s 60)
    have h4 := ih (abv k) x s
    have h5 := le_cnt p K v 7 K (nI 1) (te p K v f 0 x (rnT s 40)).2
    have h6 := le_cnt p K v 7 K x (rnT s 12)
    simp only [rn1] at h1 h2 h4 h5 h6 
    (repeat' split) <;> (try dsimp only) <;> (try rw [rn1]) <;> omega
theorem u1_u1 (ν : Nat → Nat) (k x y : Nat) : u1 (u1 ν k x) k y = u1 ν k y := by
  funext c; by_cases h : c = k
  · rw [h, u1_s, u1_s]
  · rw [u1_n h, u1_n h, u1_n h]
def R_act (n : Nat) (kd v tr : Nat → Int32) (p k x : Int32) : Int32 × Trc := if isB n p = true ∧ inR k (nI 0) (nI 2) = true then (if cn k = 0 then gr (cn p) (v (cn p)) 7 (cn (kd (cn p))) x (0, tr) else if cn k = 1 then le (cn p) (cn (kd (cn p))) (v (cn p)) 7 (cn (kd (cn p))) x (0, tr) else te (cn p) (cn (kd (cn p))) (v (cn p)) 7 (cn (kd (cn p))) x (0, tr)) else (nI 0, (0, tr))
def mn20 (t : Nat) : Nat := if t < 20 then t else 20
theorem mn20_eq {t : Nat} (h : t < 2 ^ 31) : (if nI t < nI 20 then nI t else nI 20) = nI (mn20 t) := by
  unfold mn20
  by_cases hc : t < 20
  · rw [if_pos hc, if_pos ((nI_ltI h (by omega)).mpr hc)]
  · rw [if_neg hc, if_neg (fun z => hc ((nI_ltI h (by omega)).mp z))]
def R_trace (t : Nat) (tr : Nat → Int32) (i : Int32) : Int32 := if isB (mn20 t) i = true then tr (cn i) else -1
def cls (u k : Nat) : Bool := decide (u = k) || (decide (abv u = k) || decide (abv (abv u) = k))
theorem cls_up : ∀ u : Fin 7, ∀ k : Fin 7, ¬ u.val = k.val → 0 < u.val → cls (abv u.val) k.val = cls u.val k.val := by decide +kernel
theorem abv_lt : ∀ u : Fin 7, 0 < u.val → abv u.val < u.val := by decide +kernel
def R_taken (n : Nat) (kd : Nat → Int32) (p k : Int32) : Int32 := if inR k (nI 0) (nI 6) = true then (if isB n p = true then (if cls (cn (kd (cn p))) (cn k) = true then kd (cn p) else -12) else -11) else -2
def R_count (ν : Nat → Nat) (w : Int32) : Int32 := if w = 0 then nI (ν 0) else if w = 1 then nI (ν 13) else if w = 2 then nI (ν 23) else if w = 3 then nI (ν 29) else if w = 4 then nI (ν 32) else if w = 5 then nI (ν 7) else if w = 6 then nI (ν 36) else -2
def ofP (n : Nat) (kd v pu de : Nat → Int32) (p w r : Int32) : Prop := if isB n p = true then (if w = 0 then r = kd (cn p) else if w = 1 then r = v (cn p) else if w = 2 then r = pu (cn p) else if w = 3 then r = osum de (cn p) n else if w = 4 then r = dsum de 0 (cn p) n else if w = 5 then r = bal n de (cn p) else if w = 6 then r = nI (fails n pu de (1 <<< cn p)) else if w = 7 then giftP n pu de (cn p) r else r = -1000001) else r = -1000001
theorem cls_0 : ∀ u : Fin 7, ∀ k : Fin 7, u.val = k.val ∨ u.val = 0 → cls u.val k.val = decide (u.val = k.val) := by decide +kernel
/-- pays and ends -/
def mn (x y : Int32) : Int32 := if y < x then y else x
def payS (p : Nat) (s : (Nat → Int32) × (Nat → Int32)) (q : Nat) : (Nat → Int32) × (Nat → Int32) :=
  (upd (upd s.1 p (s.1 p - mn (s.1 p) (s.2 (6 * p + q)))) q (mn (nI 9999) (upd s.1 p (s.1 p - mn (s.1 p) (s.2 (6 * p + q))) q + mn (s.1 p) (s.2 (6 * p + q)))), upd s.2 (6 * p + q) (s.2 (6 * p + q) - mn (s.1 p) (s.2 (6 * p + q))))
def paysN (p : Nat) (s : (Nat → Int32) × (Nat → Int32)) : Nat → (Nat → Int32) × (Nat → Int32)
  | 0 => s
  | k + 1 => payS p (paysN p s k) k
def z2 (de : Nat → Int32) (p : Nat) : Nat → (Nat → Int32)
  | 0 => de
  | k + 1 => upd (z2 de p k) (6 * p + k) (nI 0)
def z3 (de : Nat → Int32) (p : Nat) : Nat → (Nat → Int32)
  | 0 => de
  | k + 1 => upd (z3 de p k) (6 * k + p) (nI 0)
/-- a plan's row -/
def planS (n : Nat) (w p : Nat) (s : (Nat → Int32) × (Nat → Int32)) : (Nat → Int32) × (Nat → Int32) := if w = 0 then s else if w = 1 then paysN p s n else if w = 2 then (s.1, z2 s.2 p n) else (s.1, z3 s.2 p n)
def planN (n : Nat) (go wh : Nat → Int32) (s : (Nat → Int32) × (Nat → Int32)) : Nat → (Nat → Int32) × (Nat → Int32)
  | 0 => s
  | k + 1 => planS n (cn (go k)) (cn (wh k)) (planN n go wh s k)
def R_ends (n m : Nat) (go wh pu de : Nat → Int32) (w : Int32) : Int32 := if inR w (nI 0) (nI 1) = true then (if cn w = 0 then osumAll n (planN n go wh (pu, de) m).2 n else nI (fails n (planN n go wh (pu, de) m).1 (planN n go wh (pu, de) m).2 0)) else -1
theorem lg_n0 {v : Int64} : (lg_cmp v 0 = 0) = (v = 0) := propext (lg_cmp_eq v 0)
def gcdS : Nat → Nat × Nat → Nat × Nat
  | 0, s => s
  | f + 1, s => if s.2 = 0 then s else gcdS f (s.2, s.1 % s.2)
theorem gcdS_1 : ∀ (f x y : Nat), y < f → 0 < x ∨ 0 < y → (gcdS f (x, y)).2 = 0 ∧ (gcdS f (x, y)).1 = Nat.gcd y x := by
  intro f
  induction f with
  | zero => intro x y h; omega
  | succ f ih =>
    intro x y h hp
    simp only [gcdS]
    by_cases hy : y = 0
    · rw [if_pos hy]; subst hy; exact ⟨rfl, (Nat.gcd_zero_left x).symm⟩
    · rw [if_neg hy]
      have hm : x % y < y := Nat.mod_lt _ (by omega)
      obtain ⟨h1, h2⟩ := ih y (x % y) (by omega) (Or.inl (by omega))
      refine ⟨h1, h2.trans ?_⟩
      rw [← Nat.gcd_rec]
def R_part (a b : Nat) (part : Int32) : Int64 := if part = 0 then lN (a / Nat.gcd b a) else lN (b / Nat.gcd b a)
def psum (pu : Nat → Nat) : Nat → Nat
  | 0 => 0
  | k + 1 => psum pu k + pu k
def alone (n : Nat) (pu de : Nat → Int32) : Nat → Nat
  | 0 => 0
  | k + 1 => if fails n pu de (1 <<< k) = 1 <<< k then alone n pu de k + 1 else alone n pu de k
theorem alone_le (n : Nat) (pu de : Nat → Int32) : ∀ k, alone n pu de k ≤ k := by
  intro k
  induction k with
  | zero => exact Nat.le_refl _
  | succ k ih => simp only [alone]; split <;> omega
def R_odds (n : Nat) (pu de : Nat → Int32) (p : Int32) : Int64 := if inR p (nI 0) (nI 1) = true ∧ ¬ n = 0 then R_part (alone n pu de n) n p else (-9223372036854775808)
def R_mean (n : Nat) (pv : Nat → Nat) (p : Int32) : Int64 := if inR p (nI 0) (nI 1) = true ∧ ¬ n = 0 then R_part (psum pv n) n p else (-9223372036854775808)
theorem psum_le {pv : Nat → Nat} {B : Nat} : ∀ k, (∀ i, i < k → pv i ≤ B) → psum pv k ≤ k * B := by
  intro k
  induction k with
  | zero => intro _; exact Nat.zero_le _
  | succ k ih =>
    intro h
    have h1 := ih (fun i hi => h i (by omega))
    have h2 := h k (by omega)
    simp only [psum]; rw [Nat.succ_mul]; omega
/-- the first of a book's rows by which it is otherwise -/
def lookF (de a b c : Nat → Int32) (m : Nat) : Nat → Int32
  | 0 => -5
  | k + 1 => if de (6 * cn (a (m - (k + 1))) + cn (b (m - (k + 1)))) = c (m - (k + 1)) then lookF de a b c m k else nI (m - (k + 1))
def judF (n : Nat) (de : Nat → Int32) (so z : Int32) (τ : Nat → Int64) (b : Nat) (i : Int32) : Nat → Int32
  | 0 => -5
  | k + 1 => if so = -1 ∨ i < 0 ∨ cn z ≤ cn i + (n - (k + 1)) then nI (100 + (n - (k + 1))) else if τ (b + cn i + (n - (k + 1))) = (bal n de (n - (k + 1))).toInt64 then judF n de so z τ b i k else nI (n - (k + 1))
def R_judge (n : Nat) (de so sz : Nat → Int32) (τ : Nat → Int64) (t i : Int32) : Int32 := if inR t (nI 0) (nI 5) = true then (if so (cn t) = -1 ∨ so (cn t) = nI 2 then judF n de (so (cn t)) (sz (cn t)) τ (60 * cn t) i n else -12) else -1
end
section
def M_Mod_isTape : XM := (⟨"HandshakeBindsModel", "isTape", "(I)Z"⟩, prog_11_method_76_code, 1, (some .boolean))
theorem d_Mod_isTape_0 : decode M_Mod_isTape.2.1 0 = .ok (.iload_n 0, 1) := by decide +kernel
theorem d_Mod_isTape_1 : decode M_Mod_isTape.2.1 1 = .ok (.iconst 0, 1) := by decide +kernel
theorem d_Mod_isTape_2 : decode M_Mod_isTape.2.1 2 = .ok (.iconst 5, 1) := by decide +kernel
theorem d_Mod_isTape_3 : decode M_Mod_isTape.2.1 3 = .ok (.invokestatic 114, 3) := by decide +kernel
theorem d_Mod_isTape_6 : decode M_Mod_isTape.2.1 6 = .ok (.ireturn, 1) := by decide +kernel
def M_Mod_kept : XM := (⟨"HandshakeBindsModel", "kept", "(IJ)J"⟩, prog_11_method_78_code, 3, (some .long))
theorem d_Mod_kept_0 : decode M_Mod_kept.2.1 0 = .ok (.iload_n 0, 1) := by decide +kernel
theorem d_Mod_kept_1 : decode M_Mod_kept.2.1 1 = .ok (.tableswitch 47 0 3 #[31, 36, 41, 45], 31) := by decide +kernel
theorem d_Mod_kept_32 : decode M_Mod_kept.2.1 32 = .ok (.lload_n 1, 1) := by decide +kernel
theorem d_Mod_kept_33 : decode M_Mod_kept.2.1 33 = .ok (.l2i, 1) := by decide +kernel
theorem d_Mod_kept_34 : decode M_Mod_kept.2.1 34 = .ok (.i2b, 1) := by decide +kernel
theorem d_Mod_kept_35 : decode M_Mod_kept.2.1 35 = .ok (.i2l, 1) := by decide +kernel
theorem d_Mod_kept_36 : decode M_Mod_kept.2.1 36 = .ok (.lreturn, 1) := by decide +kernel
theorem d_Mod_kept_37 : decode M_Mod_kept.2.1 37 = .ok (.lload_n 1, 1) := by decide +kernel
theorem d_Mod_kept_38 : decode M_Mod_kept.2.1 38 = .ok (.l2i, 1) := by decide +kernel
theorem d_Mod_kept_39 : decode M_Mod_kept.2.1 39 = .ok (.i2s, 1) := by decide +kernel
theorem d_Mod_kept_40 : decode M_Mod_kept.2.1 40 = .ok (.i2l, 1) := by decide +kernel
theorem d_Mod_kept_41 : decode M_Mod_kept.2.1 41 = .ok (.lreturn, 1) := by decide +kernel
theorem d_Mod_kept_42 : decode M_Mod_kept.2.1 42 = .ok (.lload_n 1, 1) := by decide +kernel
theorem d_Mod_kept_43 : decode M_Mod_kept.2.1 43 = .ok (.l2i, 1) := by decide +kernel
theorem d_Mod_kept_44 : decode M_Mod_kept.2.1 44 = .ok (.i2l, 1) := by decide +kernel
theorem d_Mod_kept_45 : decode M_Mod_kept.2.1 45 = .ok (.lreturn, 1) := by decide +kernel
theorem d_Mod_kept_46 : decode M_Mod_kept.2.1 46 = .ok (.lload_n 1, 1) := by decide +kernel
theorem d_Mod_kept_47 : decode M_Mod_kept.2.1 47 = .ok (.lreturn, 1) := by decide +kernel
theorem d_Mod_kept_48 : decode M_Mod_kept.2.1 48 = .ok (.lload_n 1, 1) := by decide +kernel
theorem d_Mod_kept_49 : decode M_Mod_kept.2.1 49 = .ok (.lconst 0, 1) := by decide +kernel
theorem d_Mod_kept_50 : decode M_Mod_kept.2.1 50 = .ok (.lcmp, 1) := by decide +kernel
theorem d_Mod_kept_51 : decode M_Mod_kept.2.1 51 = .ok (.ifCond .eq 7, 3) := by decide +kernel
theorem d_Mod_kept_58 : decode M_Mod_kept.2.1 58 = .ok (.lconst 0, 1) := by decide +kernel
theorem d_Mod_kept_59 : decode M_Mod_kept.2.1 59 = .ok (.lreturn, 1) := by decide +kernel
theorem d_Mod_kept_54 : decode M_Mod_kept.2.1 54 = .ok (.lconst 1, 1) := by decide +kernel
theorem d_Mod_kept_55 : decode M_Mod_kept.2.1 55 = .ok (.goto 4, 3) := by decide +kernel
def M_Mod_item : XM := (⟨"HandshakeBindsModel", "item", "(IIJ)I"⟩, prog_11_method_79_code, 5, (some .int))
theorem d_Mod_item_0 : decode M_Mod_item.2.1 0 = .ok (.iload_n 1, 1) := by decide +kernel
theorem d_Mod_item_1 : decode M_Mod_item.2.1 1 = .ok (.invokestatic 345, 3) := by decide +kernel
theorem ln_Mod_345 : Cond.methodLink "HandshakeBindsModel" 345 M_Mod_isTape.1 ∈ TB := inTB 1360 (by decide +kernel) rfl
theorem lk_Mod_isTape : LSt M_Mod_isTape 1 := ⟨⟨inTB 72 (by decide +kernel) rfl, inTB 1362 (by decide +kernel) rfl, ⟨by decide, by decide, by decide +kernel⟩, by decide⟩, inTB 1361 (by decide +kernel) rfl⟩
theorem d_Mod_item_4 : decode M_Mod_item.2.1 4 = .ok (.ifCond .ne 5, 3) := by decide +kernel
theorem d_Mod_item_9 : decode M_Mod_item.2.1 9 = .ok (.aload_n 0, 1) := by decide +kernel
theorem d_Mod_item_10 : decode M_Mod_item.2.1 10 = .ok (.getfield 97, 3) := by decide +kernel
theorem gf_Mod_97 : GF "HandshakeBindsModel" 97 9 43 := ⟨_, _, _, rfl, by decide, i_Mod, inTB 893 (by decide +kernel) rfl⟩
theorem d_Mod_item_13 : decode M_Mod_item.2.1 13 = .ok (.iload_n 1, 1) := by decide +kernel
theorem d_Mod_item_14 : decode M_Mod_item.2.1 14 = .ok (.iaload, 1) := by decide +kernel
theorem d_Mod_item_15 : decode M_Mod_item.2.1 15 = .ok (.ifCond .ge 6, 3) := by decide +kernel
theorem d_Mod_item_21 : decode M_Mod_item.2.1 21 = .ok (.iload_n 2, 1) := by decide +kernel
theorem d_Mod_item_22 : decode M_Mod_item.2.1 22 = .ok (.iconst 0, 1) := by decide +kernel
theorem d_Mod_item_23 : decode M_Mod_item.2.1 23 = .ok (.aload_n 0, 1) := by decide +kernel
theorem d_Mod_item_24 : decode M_Mod_item.2.1 24 = .ok (.getfield 100, 3) := by decide +kernel
theorem gf_Mod_100 : GF "HandshakeBindsModel" 100 9 44 := ⟨_, _, _, rfl, by decide, i_Mod, inTB 894 (by decide +kernel) rfl⟩
theorem d_Mod_item_27 : decode M_Mod_item.2.1 27 = .ok (.iload_n 1, 1) := by decide +kernel
theorem d_Mod_item_28 : decode M_Mod_item.2.1 28 = .ok (.iaload, 1) := by decide +kernel
theorem d_Mod_item_29 : decode M_Mod_item.2.1 29 = .ok (.iconst 1, 1) := by decide +kernel
theorem d_Mod_item_30 : decode M_Mod_item.2.1 30 = .ok (.isub, 1) := by decide +kernel
theorem d_Mod_item_31 : decode M_Mod_item.2.1 31 = .ok (.invokestatic 114, 3) := by decide +kernel
theorem d_Mod_item_34 : decode M_Mod_item.2.1 34 = .ok (.ifCond .ne 6, 3) := by decide +kernel
theorem d_Mod_item_40 : decode M_Mod_item.2.1 40 = .ok (.aload_n 0, 1) := by decide +kernel
theorem d_Mod_item_41 : decode M_Mod_item.2.1 41 = .ok (.getfield 103, 3) := by decide +kernel
theorem gf_Mod_103 : GF "HandshakeBindsModel" 103 9 45 := ⟨_, _, _, rfl, by decide, i_Mod, inTB 895 (by decide +kernel) rfl⟩
theorem d_Mod_item_44 : decode M_Mod_item.2.1 44 = .ok (.bipush 60, 2) := by decide +kernel
theorem d_Mod_item_46 : decode M_Mod_item.2.1 46 = .ok (.iload_n 1, 1) := by decide +kernel
theorem d_Mod_item_47 : decode M_Mod_item.2.1 47 = .ok (.imul, 1) := by decide +kernel
theorem d_Mod_item_48 : decode M_Mod_item.2.1 48 = .ok (.iload_n 2, 1) := by decide +kernel
theorem d_Mod_item_49 : decode M_Mod_item.2.1 49 = .ok (.iadd, 1) := by decide +kernel
theorem d_Mod_item_50 : decode M_Mod_item.2.1 50 = .ok (.aload_n 0, 1) := by decide +kernel
theorem d_Mod_item_51 : decode M_Mod_item.2.1 51 = .ok (.getfield 97, 3) := by decide +kernel
theorem d_Mod_item_54 : decode M_Mod_item.2.1 54 = .ok (.iload_n 1, 1) := by decide +kernel
theorem d_Mod_item_55 : decode M_Mod_item.2.1 55 = .ok (.iaload, 1) := by decide +kernel
theorem d_Mod_item_56 : decode M_Mod_item.2.1 56 = .ok (.lload_n 3, 1) := by decide +kernel
theorem d_Mod_item_57 : decode M_Mod_item.2.1 57 = .ok (.invokestatic 348, 3) := by decide +kernel
theorem ln_Mod_348 : Cond.methodLink "HandshakeBindsModel" 348 M_Mod_kept.1 ∈ TB := inTB 1367 (by decide +kernel) rfl
theorem lk_Mod_kept : LSt M_Mod_kept 2 := ⟨⟨inTB 72 (by decide +kernel) rfl, inTB 1369 (by decide +kernel) rfl, ⟨by decide, by decide, by decide +kernel⟩, by decide⟩, inTB 1368 (by decide +kernel) rfl⟩
theorem d_Mod_item_60 : decode M_Mod_item.2.1 60 = .ok (.lastore, 1) := by decide +kernel
theorem d_Mod_item_61 : decode M_Mod_item.2.1 61 = .ok (.iconst 1, 1) := by decide +kernel
theorem d_Mod_item_62 : decode M_Mod_item.2.1 62 = .ok (.ireturn, 1) := by decide +kernel
theorem d_Mod_item_37 : decode M_Mod_item.2.1 37 = .ok (.bipush (-13), 2) := by decide +kernel
theorem d_Mod_item_39 : decode M_Mod_item.2.1 39 = .ok (.ireturn, 1) := by decide +kernel
theorem d_Mod_item_18 : decode M_Mod_item.2.1 18 = .ok (.bipush (-11), 2) := by decide +kernel
theorem d_Mod_item_20 : decode M_Mod_item.2.1 20 = .ok (.ireturn, 1) := by decide +kernel
theorem d_Mod_item_7 : decode M_Mod_item.2.1 7 = .ok (.iconst (-1), 1) := by decide +kernel
theorem d_Mod_item_8 : decode M_Mod_item.2.1 8 = .ok (.ireturn, 1) := by decide +kernel
def M_Mod_read : XM := (⟨"HandshakeBindsModel", "read", "(II)J"⟩, prog_11_method_80_code, 3, (some .long))
theorem d_Mod_read_0 : decode M_Mod_read.2.1 0 = .ok (.iload_n 1, 1) := by decide +kernel
theorem d_Mod_read_1 : decode M_Mod_read.2.1 1 = .ok (.invokestatic 345, 3) := by decide +kernel
theorem d_Mod_read_4 : decode M_Mod_read.2.1 4 = .ok (.ifCond .eq 42, 3) := by decide +kernel
theorem d_Mod_read_46 : decode M_Mod_read.2.1 46 = .ok (.ldc2_w 306, 3) := by decide +kernel
theorem d_Mod_read_49 : decode M_Mod_read.2.1 49 = .ok (.lreturn, 1) := by decide +kernel
theorem d_Mod_read_7 : decode M_Mod_read.2.1 7 = .ok (.aload_n 0, 1) := by decide +kernel
theorem d_Mod_read_8 : decode M_Mod_read.2.1 8 = .ok (.getfield 97, 3) := by decide +kernel
theorem d_Mod_read_11 : decode M_Mod_read.2.1 11 = .ok (.iload_n 1, 1) := by decide +kernel
theorem d_Mod_read_12 : decode M_Mod_read.2.1 12 = .ok (.iaload, 1) := by decide +kernel
theorem d_Mod_read_13 : decode M_Mod_read.2.1 13 = .ok (.ifCond .lt 33, 3) := by decide +kernel
theorem d_Mod_read_16 : decode M_Mod_read.2.1 16 = .ok (.iload_n 2, 1) := by decide +kernel
theorem d_Mod_read_17 : decode M_Mod_read.2.1 17 = .ok (.iconst 0, 1) := by decide +kernel
theorem d_Mod_read_18 : decode M_Mod_read.2.1 18 = .ok (.aload_n 0, 1) := by decide +kernel
theorem d_Mod_read_19 : decode M_Mod_read.2.1 19 = .ok (.getfield 100, 3) := by decide +kernel
theorem d_Mod_read_22 : decode M_Mod_read.2.1 22 = .ok (.iload_n 1, 1) := by decide +kernel
theorem d_Mod_read_23 : decode M_Mod_read.2.1 23 = .ok (.iaload, 1) := by decide +kernel
theorem d_Mod_read_24 : decode M_Mod_read.2.1 24 = .ok (.iconst 1, 1) := by decide +kernel
theorem d_Mod_read_25 : decode M_Mod_read.2.1 25 = .ok (.isub, 1) := by decide +kernel
theorem d_Mod_read_26 : decode M_Mod_read.2.1 26 = .ok (.invokestatic 114, 3) := by decide +kernel
theorem d_Mod_read_29 : decode M_Mod_read.2.1 29 = .ok (.ifCond .eq 17, 3) := by decide +kernel
theorem d_Mod_read_32 : decode M_Mod_read.2.1 32 = .ok (.aload_n 0, 1) := by decide +kernel
theorem d_Mod_read_33 : decode M_Mod_read.2.1 33 = .ok (.getfield 103, 3) := by decide +kernel
theorem d_Mod_read_36 : decode M_Mod_read.2.1 36 = .ok (.bipush 60, 2) := by decide +kernel
theorem d_Mod_read_38 : decode M_Mod_read.2.1 38 = .ok (.iload_n 1, 1) := by decide +kernel
theorem d_Mod_read_39 : decode M_Mod_read.2.1 39 = .ok (.imul, 1) := by decide +kernel
theorem d_Mod_read_40 : decode M_Mod_read.2.1 40 = .ok (.iload_n 2, 1) := by decide +kernel
theorem d_Mod_read_41 : decode M_Mod_read.2.1 41 = .ok (.iadd, 1) := by decide +kernel
theorem d_Mod_read_42 : decode M_Mod_read.2.1 42 = .ok (.laload, 1) := by decide +kernel
theorem d_Mod_read_43 : decode M_Mod_read.2.1 43 = .ok (.goto 6, 3) := by decide +kernel
theorem c_Mod_isTape (X : Xn) (t : Int32) : Does X 2 M_Mod_isTape [.int t] ([]) 0 0 (fun (vv : Option Value) (ww : va_W) => vv = some (.int (bI (inR t (nI 0) (nI 5)))) ∧ ww = []) := by
  generalize hQ : (fun (vv : Option Value) (ww : va_W) => vv = some (.int (bI (inR t (nI 0) (nI 5)))) ∧ ww = []) = Q
  refine Does.go rfl (Nat.le_of_ble_eq_true rfl) [some (.int t)] 0 rfl ?_
  refine r_iload_n rfl 1 rfl d_Mod_isTape_0 ?_
  refine r_iconst (nI 0) rfl 2 rfl d_Mod_isTape_1 ?_
  refine r_iconst (nI 5) rfl 3 rfl d_Mod_isTape_2 ?_
  refine r_callS1 (st2 := [.int (bI (inR t (nI 0) (nI 5)))]) (w2 := []) lk_Mod_within ln_Mod_114 (c_Mod_within X t (nI 0) (nI 5)) (by first | decide | omega) rfl rfl (Nat.le_of_ble_eq_true rfl) (Nat.le_of_ble_eq_true rfl) (Nat.le_of_ble_eq_true rfl) [] rfl rfl rfl rfl rfl 6 rfl d_Mod_isTape_3 ?_
  exact r_zret rfl (bI_nar _) (Nat.zero_le _) (Nat.zero_le _) d_Mod_isTape_6 (by rw [← hQ]; exact ⟨rfl, rfl⟩)
theorem c_Mod_kept (X : Xn) (s : Int32) (v : Int64) : Does X 1 M_Mod_kept [.int s, .long v] ([]) 0 0 (fun (vv : Option Value) (ww : va_W) => vv = some (.long (keptV s v)) ∧ ww = []) := by
  generalize hQ : (fun (vv : Option Value) (ww : va_W) => vv = some (.long (keptV s v)) ∧ ww = []) = Q
  refine Does.go rfl (Nat.le_of_ble_eq_true rfl) [some (.int s), some (.long v), none] 0 rfl ?_
  refine r_iload_n rfl 1 rfl d_Mod_kept_0 ?_
  by_cases h1_0 : s = 0
  · refine r_tableIn 32 d_Mod_kept_1 (by rw [h1_0]; decide) (by rw [h1_0]; decide) (by rw [h1_0]; rfl) rfl ?_
    refine r_lload_n rfl 33 rfl d_Mod_kept_32 ?_
    refine r_l2i 34 rfl d_Mod_kept_33 ?_
    refine r_i2b 35 rfl d_Mod_kept_34 ?_
    refine r_i2l 36 rfl d_Mod_kept_35 ?_
    exact r_lret rfl (Nat.zero_le _) (Nat.zero_le _) d_Mod_kept_36 (by rw [← hQ]; exact ⟨by simp [keptV, lg_cmp_eq, h1_0], rfl⟩)
  by_cases h1_1 : s = 1
  · refine r_tableIn 37 d_Mod_kept_1 (by rw [h1_1]; decide) (by rw [h1_1]; decide) (by rw [h1_1]; rfl) rfl ?_
    refine r_lload_n rfl 38 rfl d_Mod_kept_37 ?_
    refine r_l2i 39 rfl d_Mod_kept_38 ?_
    refine r_i2s 40 rfl d_Mod_kept_39 ?_
    refine r_i2l 41 rfl d_Mod_kept_40 ?_
    exact r_lret rfl (Nat.zero_le _) (Nat.zero_le _) d_Mod_kept_41 (by rw [← hQ]; exact ⟨by simp [keptV, lg_cmp_eq, h1_1], rfl⟩)
  by_cases h1_2 : s = 2
  · refine r_tableIn 42 d_Mod_kept_1 (by rw [h1_2]; decide) (by rw [h1_2]; decide) (by rw [h1_2]; rfl) rfl ?_
    refine r_lload_n rfl 43 rfl d_Mod_kept_42 ?_
    refine r_l2i 44 rfl d_Mod_kept_43 ?_
    refine r_i2l 45 rfl d_Mod_kept_44 ?_
    exact r_lret rfl (Nat.zero_le _) (Nat.zero_le _) d_Mod_kept_45 (by rw [← hQ]; exact ⟨by simp [keptV, lg_cmp_eq, h1_2], rfl⟩)
  by_cases h1_3 : s = 3
  · refine r_tableIn 46 d_Mod_kept_1 (by rw [h1_3]; decide) (by rw [h1_3]; decide) (by rw [h1_3]; rfl) rfl ?_
    refine r_lload_n rfl 47 rfl d_Mod_kept_46 ?_
    exact r_lret rfl (Nat.zero_le _) (Nat.zero_le _) d_Mod_kept_47 (by rw [← hQ]; exact ⟨by simp [keptV, lg_cmp_eq, h1_3], rfl⟩)
  have t1_0 : ¬ (s).toInt = 0 := lv_neT h1_0 (by decide)
  have t1_1 : ¬ (s).toInt = 1 := lv_neT h1_1 (by decide)
  have t1_2 : ¬ (s).toInt = 2 := lv_neT h1_2 (by decide)
  have t1_3 : ¬ (s).toInt = 3 := lv_neT h1_3 (by decide)
  refine r_tableOut 48 d_Mod_kept_1 (by omega) rfl ?_
  refine r_lload_n rfl 49 rfl d_Mod_kept_48 ?_
  refine r_lconst 0 rfl 50 rfl d_Mod_kept_49 ?_
  refine r_lcmp 51 rfl d_Mod_kept_50 ?_
  refine r_if_eq 54 58 rfl rfl d_Mod_kept_51 (fun h51 => ?_) (fun h51 => ?_)
  · have h51 := (lg_cmp_eq _ _).mp h51
    refine r_lconst 0 rfl 59 rfl d_Mod_kept_58 ?_
    exact r_lret rfl (Nat.zero_le _) (Nat.zero_le _) d_Mod_kept_59 (by rw [← hQ]; exact ⟨by simp [keptV, lg_cmp_eq, h1_0, h1_1, h1_2, h1_3, h51], rfl⟩)
  · have h51 : ¬ v = 0 := fun z => h51 ((lg_cmp_eq _ _).mpr z)
    refine r_lconst 1 rfl 55 rfl d_Mod_kept_54 ?_
    refine r_goto 59 rfl d_Mod_kept_55 ?_
    exact r_lret rfl (Nat.zero_le _) (Nat.zero_le _) d_Mod_kept_59 (by rw [← hQ]; exact ⟨by simp [keptV, lg_cmp_eq, h1_0, h1_1, h1_2, h1_3, h51], rfl⟩)
theorem c_Mod_item (X : Xn) (a ν : Nat → Nat) (σ : Nat → Nat → Int32) (τ : Nat → Int64) (hsz : ∀ t, t < 6 → ∃ z : Nat, z ≤ 60 ∧ σ 44 t = nI z) (t i : Int32) (v : Int64) : Does X 4 M_Mod_item [.ref (a 0), .int t, .int i, .long v] (MW X a ν σ τ) 0 0 (fun (vv : Option Value) (ww : va_W) => vv = some (.int (R_item (σ 43) (σ 44) t i)) ∧ ww = MW X a ν σ (if b_item (σ 43) (σ 44) t i = true then vp_updL τ (60 * cn t + cn i) (keptV (σ 43 (cn t)) v) else τ)) := by
  generalize hQ : (fun (vv : Option Value) (ww : va_W) => vv = some (.int (R_item (σ 43) (σ 44) t i)) ∧ ww = MW X a ν σ (if b_item (σ 43) (σ 44) t i = true then vp_updL τ (60 * cn t + cn i) (keptV (σ 43 (cn t)) v) else τ)) = Q
  refine Does.go rfl (Nat.le_of_ble_eq_true rfl) [some (.ref (a 0)), some (.int t), some (.int i), some (.long v), none] 0 rfl ?_
  refine r_iload_n rfl 1 rfl d_Mod_item_0 ?_
  refine r_callS1 (st2 := [.int (bI (inR t (nI 0) (nI 5)))]) (w2 := MW X a ν σ τ) lk_Mod_isTape ln_Mod_345 (c_Mod_isTape X t) (by first | decide | omega) rfl rfl (Nat.le_of_ble_eq_true rfl) (Nat.le_of_ble_eq_true rfl) (Nat.le_of_ble_eq_true rfl) [] rfl rfl rfl rfl rfl 4 rfl d_Mod_item_1 ?_
  refine r_if_neB 7 9 rfl rfl d_Mod_item_4 (fun h4 => ?_) (fun h4 => ?_)
  · obtain ⟨tN, htN, rfl⟩ := inR_t (by decide) h4
    have etN : cn (nI tN) = tN := cn_nI (by omega)
    have mtN : ¬ nI tN = -1 := m1n (by omega)
    refine r_aload_n rfl 10 rfl d_Mod_item_9 ?_
    refine r_getf (v := .ref (a 43)) gf_Mod_97 0 rfl rfl 13 rfl d_Mod_item_10 ?_
    refine r_iload_n rfl 14 rfl d_Mod_item_13 ?_
    refine r_iald 29 rfl tN rfl (by omega) (by omega) 15 rfl d_Mod_item_14 ?_
    refine r_if_ge 18 21 rfl rfl d_Mod_item_15 (fun h15 => ?_) (fun h15 => ?_)
    · have h15b := Int32.not_lt.mpr h15
      refine r_iload_n rfl 22 rfl d_Mod_item_21 ?_
      refine r_iconst (nI 0) rfl 23 rfl d_Mod_item_22 ?_
      refine r_aload_n rfl 24 rfl d_Mod_item_23 ?_
      refine r_getf (v := .ref (a 44)) gf_Mod_100 0 rfl rfl 27 rfl d_Mod_item_24 ?_
      refine r_iload_n rfl 28 rfl d_Mod_item_27 ?_
      refine r_iald 30 rfl tN rfl (by omega) (by omega) 29 rfl d_Mod_item_28 ?_
      obtain ⟨z, hz, ez⟩ := hsz tN (by omega)
      refine r_topi (nI z) ez ?_
      refine r_iconst (nI 1) rfl 30 rfl d_Mod_item_29 ?_
      refine r_isub 31 rfl d_Mod_item_30 ?_
      refine r_callS1 (st2 := [.int (bI (inR i (nI 0) ((nI z) - (nI 1))))]) (w2 := MW X a ν σ τ) lk_Mod_within ln_Mod_114 (c_Mod_within X i (nI 0) ((nI z) - (nI 1))) (by first | decide | omega) rfl rfl (Nat.le_of_ble_eq_true rfl) (Nat.le_of_ble_eq_true rfl) (Nat.le_of_ble_eq_true rfl) [] rfl rfl rfl rfl rfl 34 rfl d_Mod_item_31 ?_
      refine r_if_neB 37 40 rfl rfl d_Mod_item_34 (fun h34 => ?_) (fun h34 => ?_)
      · obtain ⟨iN, hiN, rfl⟩ := isB_tG (n := z) (by omega) h34
        have eiN : cn (nI iN) = iN := cn_nI (by omega)
        refine r_aload_n rfl 41 rfl d_Mod_item_40 ?_
        refine r_getf (v := .ref (a 45)) gf_Mod_103 0 rfl rfl 44 rfl d_Mod_item_41 ?_
        refine r_bipush (nI 60) rfl 46 rfl d_Mod_item_44 ?_
        refine r_iload_n rfl 47 rfl d_Mod_item_46 ?_
        refine r_imul 48 rfl d_Mod_item_47 ?_
        refine r_topi (nI (60 * tN)) (pk_mul _ _) ?_
        refine r_iload_n rfl 49 rfl d_Mod_item_48 ?_
        refine r_iadd 50 rfl d_Mod_item_49 ?_
        refine r_topi (nI ((60 * tN) + iN)) (nI_add _ _) ?_
        refine r_aload_n rfl 51 rfl d_Mod_item_50 ?_
        refine r_getf (v := .ref (a 43)) gf_Mod_97 0 rfl rfl 54 rfl d_Mod_item_51 ?_
        refine r_iload_n rfl 55 rfl d_Mod_item_54 ?_
        refine r_iald 29 rfl tN rfl (by omega) (by omega) 56 rfl d_Mod_item_55 ?_
        refine r_lload_n rfl 57 rfl d_Mod_item_56 ?_
        refine r_callS1 (st2 := [.long (keptV (σ 43 tN) v), .int (nI ((60 * tN) + iN)), .ref (a 45)]) (w2 := MW X a ν σ τ) lk_Mod_kept ln_Mod_348 (c_Mod_kept X (σ 43 tN) v) (by first | decide | omega) rfl rfl (Nat.le_of_ble_eq_true rfl) (Nat.le_of_ble_eq_true rfl) (Nat.le_of_ble_eq_true rfl) [] rfl rfl rfl rfl rfl 60 rfl d_Mod_item_57 ?_
        refine r_last (w2 := MW X a ν σ (vp_updL τ ((60 * tN) + iN) (keptV (σ 43 tN) v))) 31 rfl ((60 * tN) + iN) rfl (by omega) (by omega) rfl 61 rfl d_Mod_item_60 ?_
        refine r_iconst (nI 1) rfl 62 rfl d_Mod_item_61 ?_
        exact r_iret rfl (Nat.zero_le _) (Nat.zero_le _) d_Mod_item_62 (by rw [← hQ]; exact ⟨by simp [R_item, b_item, h4, etN, mtN, h15, h15b, ez, h34, eiN], by first | (simp [R_item, b_item, h4, etN, mtN, h15, h15b, ez, h34, eiN, u2_self, u1_self]; done) | (simp [R_item, b_item, h4, etN, mtN, h15, h15b, ez, h34, eiN, u2_self, u1_self]; rw [← eiN, u1_self])⟩)
      · refine r_bipush ((-13)) rfl 39 rfl d_Mod_item_37 ?_
        exact r_iret rfl (Nat.zero_le _) (Nat.zero_le _) d_Mod_item_39 (by rw [← hQ]; exact ⟨by simp [R_item, b_item, h4, etN, mtN, h15, h15b, ez, h34], by first | (simp [R_item, b_item, h4, etN, mtN, h15, h15b, ez, h34, u2_self, u1_self]; done) | (simp [R_item, b_item, h4, etN, mtN, h15, h15b, ez, h34, u2_self, u1_self]; rw [← h34, u1_self])⟩)
    · have h15b := Int32.not_le.mp h15
      refine r_bipush ((-11)) rfl 20 rfl d_Mod_item_18 ?_
      exact r_iret rfl (Nat.zero_le _) (Nat.zero_le _) d_Mod_item_20 (by rw [← hQ]; exact ⟨by simp [R_item, b_item, h4, etN, mtN, h15, h15b], by first | (simp [R_item, b_item, h4, etN, mtN, h15, h15b, u2_self, u1_self]; done) | (simp [R_item, b_item, h4, etN, mtN, h15, h15b, u2_self, u1_self]; rw [← h15b, u1_self])⟩)
  · refine r_iconst ((-1)) rfl 8 rfl d_Mod_item_7 ?_
    exact r_iret rfl (Nat.zero_le _) (Nat.zero_le _) d_Mod_item_8 (by rw [← hQ]; exact ⟨by simp [R_item, b_item, h4], by first | (simp [R_item, b_item, h4, u2_self, u1_self]; done) | (simp [R_item, b_item, h4, u2_self, u1_self]; rw [← h4, u1_self])⟩)
theorem c_Mod_read (X : Xn) (a ν : Nat → Nat) (σ : Nat → Nat → Int32) (τ : Nat → Int64) (hsz : ∀ t, t < 6 → ∃ z : Nat, z ≤ 60 ∧ σ 44 t = nI z) (t i : Int32) : Does X 4 M_Mod_read [.ref (a 0), .int t, .int i] (MW X a ν σ τ) 0 0 (fun (vv : Option Value) (ww : va_W) => vv = some (.long (R_read (σ 43) (σ 44) τ t i)) ∧ ww = MW X a ν σ τ) := by
  generalize hQ : (fun (vv : Option Value) (ww : va_W) => vv = some (.long (R_read (σ 43) (σ 44) τ t i)) ∧ ww = MW X a ν σ τ) = Q
  refine Does.go rfl (Nat.le_of_ble_eq_true rfl) [some (.ref (a 0)), some (.int t), some (.int i)] 0 rfl ?_
  refine r_iload_n rfl 1 rfl d_Mod_read_0 ?_
  refine r_callS1 (st2 := [.int (bI (inR t (nI 0) (nI 5)))]) (w2 := MW X a ν σ τ) lk_Mod_isTape ln_Mod_345 (c_Mod_isTape X t) (by first | decide | omega) rfl rfl (Nat.le_of_ble_eq_true rfl) (Nat.le_of_ble_eq_true rfl) (Nat.le_of_ble_eq_true rfl) [] rfl rfl rfl rfl rfl 4 rfl d_Mod_read_1 ?_
  refine r_if_eqB 7 46 rfl rfl d_Mod_read_4 (fun h4 => ?_) (fun h4 => ?_)
  · refine r_ldc2 (v := (-9223372036854775808)) (inTB 1281 (by decide +kernel) rfl) 49 rfl d_Mod_read_46 ?_
    exact r_lret rfl (Nat.zero_le _) (Nat.zero_le _) d_Mod_read_49 (by rw [← hQ]; exact ⟨by simp [R_read, b_item, h4], rfl⟩)
  · obtain ⟨tN, htN, rfl⟩ := inR_t (by decide) h4
    have etN : cn (nI tN) = tN := cn_nI (by omega)
    have mtN : ¬ nI tN = -1 := m1n (by omega)
    refine r_aload_n rfl 8 rfl d_Mod_read_7 ?_
    refine r_getf (v := .ref (a 43)) gf_Mod_97 0 rfl rfl 11 rfl d_Mod_read_8 ?_
    refine r_iload_n rfl 12 rfl d_Mod_read_11 ?_
    refine r_iald 29 rfl tN rfl (by omega) (by omega) 13 rfl d_Mod_read_12 ?_
    refine r_if_lt 16 46 rfl rfl d_Mod_read_13 (fun h13 => ?_) (fun h13 => ?_)
    · have h13b := Int32.not_le.mpr h13
      refine r_ldc2 (v := (-9223372036854775808)) (inTB 1281 (by decide +kernel) rfl) 49 rfl d_Mod_read_46 ?_
      exact r_lret rfl (Nat.zero_le _) (Nat.zero_le _) d_Mod_read_49 (by rw [← hQ]; exact ⟨by simp [R_read, b_item, h4, etN, mtN, h13, h13b], rfl⟩)
    · have h13b := Int32.not_lt.mp h13
      refine r_iload_n rfl 17 rfl d_Mod_read_16 ?_
      refine r_iconst (nI 0) rfl 18 rfl d_Mod_read_17 ?_
      refine r_aload_n rfl 19 rfl d_Mod_read_18 ?_
      refine r_getf (v := .ref (a 44)) gf_Mod_100 0 rfl rfl 22 rfl d_Mod_read_19 ?_
      refine r_iload_n rfl 23 rfl d_Mod_read_22 ?_
      refine r_iald 30 rfl tN rfl (by omega) (by omega) 24 rfl d_Mod_read_23 ?_
      obtain ⟨z, hz, ez⟩ := hsz tN (by omega)
      refine r_topi (nI z) ez ?_
      refine r_iconst (nI 1) rfl 25 rfl d_Mod_read_24 ?_
      refine r_isub 26 rfl d_Mod_read_25 ?_
      refine r_callS1 (st2 := [.int (bI (inR i (nI 0) ((nI z) - (nI 1))))]) (w2 := MW X a ν σ τ) lk_Mod_within ln_Mod_114 (c_Mod_within X i (nI 0) ((nI z) - (nI 1))) (by first | decide | omega) rfl rfl (Nat.le_of_ble_eq_true rfl) (Nat.le_of_ble_eq_true rfl) (Nat.le_of_ble_eq_true rfl) [] rfl rfl rfl rfl rfl 29 rfl d_Mod_read_26 ?_
      refine r_if_eqB 32 46 rfl rfl d_Mod_read_29 (fun h29 => ?_) (fun h29 => ?_)
      · refine r_ldc2 (v := (-9223372036854775808)) (inTB 1281 (by decide +kernel) rfl) 49 rfl d_Mod_read_46 ?_
        exact r_lret rfl (Nat.zero_le _) (Nat.zero_le _) d_Mod_read_49 (by rw [← hQ]; exact ⟨by simp [R_read, b_item, h4, etN, mtN, h13, h13b, ez, h29], rfl⟩)
      · obtain ⟨iN, hiN, rfl⟩ := isB_tG (n := z) (by omega) h29
        have eiN : cn (nI iN) = iN := cn_nI (by omega)
        refine r_aload_n rfl 33 rfl d_Mod_read_32 ?_
        refine r_getf (v := .ref (a 45)) gf_Mod_103 0 rfl rfl 36 rfl d_Mod_read_33 ?_
        refine r_bipush (nI 60) rfl 38 rfl d_Mod_read_36 ?_
        refine r_iload_n rfl 39 rfl d_Mod_read_38 ?_
        refine r_imul 40 rfl d_Mod_read_39 ?_
        refine r_topi (nI (60 * tN)) (pk_mul _ _) ?_
        refine r_iload_n rfl 41 rfl d_Mod_read_40 ?_
        refine r_iadd 42 rfl d_Mod_read_41 ?_
        refine r_topi (nI ((60 * tN) + iN)) (nI_add _ _) ?_
        refine r_lald 31 rfl ((60 * tN) + iN) rfl (by omega) (by omega) 43 rfl d_Mod_read_42 ?_
        refine r_goto 49 rfl d_Mod_read_43 ?_
        exact r_lret rfl (Nat.zero_le _) (Nat.zero_le _) d_Mod_read_49 (by rw [← hQ]; exact ⟨by simp [R_read, b_item, h4, etN, mtN, h13, h13b, ez, h29, eiN], rfl⟩)
end
section
def M_Mod_above : XM := (⟨"HandshakeBindsModel", "above", "(I)I"⟩, prog_11_method_68_code, 1, (some .int))
theorem d_Mod_above_0 : decode M_Mod_above.2.1 0 = .ok (.iload_n 0, 1) := by decide +kernel
theorem d_Mod_above_1 : decode M_Mod_above.2.1 1 = .ok (.iconst 4, 1) := by decide +kernel
theorem d_Mod_above_2 : decode M_Mod_above.2.1 2 = .ok (.if_icmp .ne 7, 3) := by decide +kernel
theorem d_Mod_above_9 : decode M_Mod_above.2.1 9 = .ok (.iload_n 0, 1) := by decide +kernel
theorem d_Mod_above_10 : decode M_Mod_above.2.1 10 = .ok (.iconst 5, 1) := by decide +kernel
theorem d_Mod_above_11 : decode M_Mod_above.2.1 11 = .ok (.if_icmp .ne 7, 3) := by decide +kernel
theorem d_Mod_above_18 : decode M_Mod_above.2.1 18 = .ok (.iload_n 0, 1) := by decide +kernel
theorem d_Mod_above_19 : decode M_Mod_above.2.1 19 = .ok (.bipush 6, 2) := by decide +kernel
theorem d_Mod_above_21 : decode M_Mod_above.2.1 21 = .ok (.if_icmp .ne 7, 3) := by decide +kernel
theorem d_Mod_above_28 : decode M_Mod_above.2.1 28 = .ok (.iconst 0, 1) := by decide +kernel
theorem d_Mod_above_29 : decode M_Mod_above.2.1 29 = .ok (.ireturn, 1) := by decide +kernel
theorem d_Mod_above_24 : decode M_Mod_above.2.1 24 = .ok (.iconst 3, 1) := by decide +kernel
theorem d_Mod_above_25 : decode M_Mod_above.2.1 25 = .ok (.goto 4, 3) := by decide +kernel
theorem d_Mod_above_14 : decode M_Mod_above.2.1 14 = .ok (.iconst 2, 1) := by decide +kernel
theorem d_Mod_above_15 : decode M_Mod_above.2.1 15 = .ok (.goto 14, 3) := by decide +kernel
theorem d_Mod_above_5 : decode M_Mod_above.2.1 5 = .ok (.iconst 1, 1) := by decide +kernel
theorem d_Mod_above_6 : decode M_Mod_above.2.1 6 = .ok (.goto 23, 3) := by decide +kernel
def M_Mod_ran : XM := (⟨"HandshakeBindsModel", "ran", "(I)V"⟩, prog_11_method_67_code, 2, none)
theorem d_Mod_ran_0 : decode M_Mod_ran.2.1 0 = .ok (.aload_n 0, 1) := by decide +kernel
theorem d_Mod_ran_1 : decode M_Mod_ran.2.1 1 = .ok (.getfield 326, 3) := by decide +kernel
theorem gf_Mod_326 : GF "HandshakeBindsModel" 326 9 36 := ⟨_, _, _, rfl, by decide, i_Mod, inTB 886 (by decide +kernel) rfl⟩
theorem d_Mod_ran_4 : decode M_Mod_ran.2.1 4 = .ok (.bipush 20, 2) := by decide +kernel
theorem d_Mod_ran_6 : decode M_Mod_ran.2.1 6 = .ok (.if_icmp .ge 13, 3) := by decide +kernel
theorem d_Mod_ran_19 : decode M_Mod_ran.2.1 19 = .ok (.aload_n 0, 1) := by decide +kernel
theorem d_Mod_ran_20 : decode M_Mod_ran.2.1 20 = .ok (.dup, 1) := by decide +kernel
theorem d_Mod_ran_21 : decode M_Mod_ran.2.1 21 = .ok (.getfield 326, 3) := by decide +kernel
theorem d_Mod_ran_24 : decode M_Mod_ran.2.1 24 = .ok (.iconst 1, 1) := by decide +kernel
theorem d_Mod_ran_25 : decode M_Mod_ran.2.1 25 = .ok (.iadd, 1) := by decide +kernel
theorem d_Mod_ran_26 : decode M_Mod_ran.2.1 26 = .ok (.putfield 326, 3) := by decide +kernel
theorem pf_Mod_326 : PF "HandshakeBindsModel" 326 9 36 (.int) false := ⟨_, _, _, t_Mod, rfl, by decide, i_Mod, t_Mod_ok, n_Mod, inTB 886 (by decide +kernel) rfl, rfl, t_Mod_ok 36 (by decide), fun _ => rfl⟩
theorem d_Mod_ran_29 : decode M_Mod_ran.2.1 29 = .ok (.return_, 1) := by decide +kernel
theorem d_Mod_ran_9 : decode M_Mod_ran.2.1 9 = .ok (.aload_n 0, 1) := by decide +kernel
theorem d_Mod_ran_10 : decode M_Mod_ran.2.1 10 = .ok (.getfield 82, 3) := by decide +kernel
theorem gf_Mod_82 : GF "HandshakeBindsModel" 82 9 37 := ⟨_, _, _, rfl, by decide, i_Mod, inTB 887 (by decide +kernel) rfl⟩
theorem d_Mod_ran_13 : decode M_Mod_ran.2.1 13 = .ok (.aload_n 0, 1) := by decide +kernel
theorem d_Mod_ran_14 : decode M_Mod_ran.2.1 14 = .ok (.getfield 326, 3) := by decide +kernel
theorem d_Mod_ran_17 : decode M_Mod_ran.2.1 17 = .ok (.iload_n 1, 1) := by decide +kernel
theorem d_Mod_ran_18 : decode M_Mod_ran.2.1 18 = .ok (.iastore, 1) := by decide +kernel
def M_Mod_grips : XM := (⟨"HandshakeBindsModel", "grips", "(III)I"⟩, prog_11_method_69_code, 4, (some .int))
theorem d_Mod_grips_0 : decode M_Mod_grips.2.1 0 = .ok (.iload_n 2, 1) := by decide +kernel
theorem d_Mod_grips_1 : decode M_Mod_grips.2.1 1 = .ok (.tableswitch 105 0 6 #[95, 105, 43, 105, 59, 105, 74], 43) := by decide +kernel
theorem d_Mod_grips_96 : decode M_Mod_grips.2.1 96 = .ok (.aload_n 0, 1) := by decide +kernel
theorem d_Mod_grips_97 : decode M_Mod_grips.2.1 97 = .ok (.bipush 10, 2) := by decide +kernel
theorem d_Mod_grips_99 : decode M_Mod_grips.2.1 99 = .ok (.invokevirtual 329, 3) := by decide +kernel
theorem ln_Mod_329 : Cond.methodLink "HandshakeBindsModel" 329 M_Mod_ran.1 ∈ TB := inTB 1329 (by decide +kernel) rfl
theorem lk_Mod_ran : LVt M_Mod_ran 1 := ⟨⟨inTB 72 (by decide +kernel) rfl, inTB 1332 (by decide +kernel) rfl, ⟨by decide, by decide, by decide +kernel⟩, by decide⟩, inTB 1331 (by decide +kernel) rfl, inTB 58 (by decide +kernel) rfl⟩
theorem d_Mod_grips_102 : decode M_Mod_grips.2.1 102 = .ok (.iload_n 3, 1) := by decide +kernel
theorem d_Mod_grips_103 : decode M_Mod_grips.2.1 103 = .ok (.iload_n 1, 1) := by decide +kernel
theorem d_Mod_grips_104 : decode M_Mod_grips.2.1 104 = .ok (.iadd, 1) := by decide +kernel
theorem d_Mod_grips_105 : decode M_Mod_grips.2.1 105 = .ok (.ireturn, 1) := by decide +kernel
theorem d_Mod_grips_106 : decode M_Mod_grips.2.1 106 = .ok (.aload_n 0, 1) := by decide +kernel
theorem d_Mod_grips_107 : decode M_Mod_grips.2.1 107 = .ok (.iload_n 1, 1) := by decide +kernel
theorem d_Mod_grips_108 : decode M_Mod_grips.2.1 108 = .ok (.iload_n 2, 1) := by decide +kernel
theorem d_Mod_grips_109 : decode M_Mod_grips.2.1 109 = .ok (.invokestatic 336, 3) := by decide +kernel
theorem ln_Mod_336 : Cond.methodLink "HandshakeBindsModel" 336 M_Mod_above.1 ∈ TB := inTB 1333 (by decide +kernel) rfl
theorem lk_Mod_above : LSt M_Mod_above 1 := ⟨⟨inTB 72 (by decide +kernel) rfl, inTB 1335 (by decide +kernel) rfl, ⟨by decide, by decide, by decide +kernel⟩, by decide⟩, inTB 1334 (by decide +kernel) rfl⟩
theorem d_Mod_grips_112 : decode M_Mod_grips.2.1 112 = .ok (.iload_n 3, 1) := by decide +kernel
theorem d_Mod_grips_113 : decode M_Mod_grips.2.1 113 = .ok (.invokevirtual 332, 3) := by decide +kernel
theorem ln_Mod_332 : Cond.methodLink "HandshakeBindsModel" 332 M_Mod_grips.1 ∈ TB := inTB 1325 (by decide +kernel) rfl
theorem lk_Mod_grips : LVt M_Mod_grips 3 := ⟨⟨inTB 72 (by decide +kernel) rfl, inTB 1328 (by decide +kernel) rfl, ⟨by decide, by decide, by decide +kernel⟩, by decide⟩, inTB 1327 (by decide +kernel) rfl, inTB 57 (by decide +kernel) rfl⟩
theorem d_Mod_grips_116 : decode M_Mod_grips.2.1 116 = .ok (.ireturn, 1) := by decide +kernel
theorem d_Mod_grips_44 : decode M_Mod_grips.2.1 44 = .ok (.aload_n 0, 1) := by decide +kernel
theorem d_Mod_grips_45 : decode M_Mod_grips.2.1 45 = .ok (.bipush 30, 2) := by decide +kernel
theorem d_Mod_grips_47 : decode M_Mod_grips.2.1 47 = .ok (.invokevirtual 329, 3) := by decide +kernel
theorem d_Mod_grips_50 : decode M_Mod_grips.2.1 50 = .ok (.aload_n 0, 1) := by decide +kernel
theorem d_Mod_grips_51 : decode M_Mod_grips.2.1 51 = .ok (.iload_n 1, 1) := by decide +kernel
theorem d_Mod_grips_52 : decode M_Mod_grips.2.1 52 = .ok (.iconst 0, 1) := by decide +kernel
theorem d_Mod_grips_53 : decode M_Mod_grips.2.1 53 = .ok (.iload_n 3, 1) := by decide +kernel
theorem d_Mod_grips_54 : decode M_Mod_grips.2.1 54 = .ok (.iconst 3, 1) := by decide +kernel
theorem d_Mod_grips_55 : decode M_Mod_grips.2.1 55 = .ok (.imul, 1) := by decide +kernel
theorem d_Mod_grips_56 : decode M_Mod_grips.2.1 56 = .ok (.invokevirtual 332, 3) := by decide +kernel
theorem d_Mod_grips_59 : decode M_Mod_grips.2.1 59 = .ok (.ireturn, 1) := by decide +kernel
theorem d_Mod_grips_60 : decode M_Mod_grips.2.1 60 = .ok (.aload_n 0, 1) := by decide +kernel
theorem d_Mod_grips_61 : decode M_Mod_grips.2.1 61 = .ok (.bipush 50, 2) := by decide +kernel
theorem d_Mod_grips_63 : decode M_Mod_grips.2.1 63 = .ok (.invokevirtual 329, 3) := by decide +kernel
theorem d_Mod_grips_66 : decode M_Mod_grips.2.1 66 = .ok (.aload_n 0, 1) := by decide +kernel
theorem d_Mod_grips_67 : decode M_Mod_grips.2.1 67 = .ok (.iload_n 1, 1) := by decide +kernel
theorem d_Mod_grips_68 : decode M_Mod_grips.2.1 68 = .ok (.iconst 1, 1) := by decide +kernel
theorem d_Mod_grips_69 : decode M_Mod_grips.2.1 69 = .ok (.iload_n 3, 1) := by decide +kernel
theorem d_Mod_grips_70 : decode M_Mod_grips.2.1 70 = .ok (.invokevirtual 332, 3) := by decide +kernel
theorem d_Mod_grips_73 : decode M_Mod_grips.2.1 73 = .ok (.ineg, 1) := by decide +kernel
theorem d_Mod_grips_74 : decode M_Mod_grips.2.1 74 = .ok (.ireturn, 1) := by decide +kernel
theorem d_Mod_grips_75 : decode M_Mod_grips.2.1 75 = .ok (.aload_n 0, 1) := by decide +kernel
theorem d_Mod_grips_76 : decode M_Mod_grips.2.1 76 = .ok (.bipush 71, 2) := by decide +kernel
theorem d_Mod_grips_78 : decode M_Mod_grips.2.1 78 = .ok (.invokevirtual 329, 3) := by decide +kernel
theorem d_Mod_grips_81 : decode M_Mod_grips.2.1 81 = .ok (.aload_n 0, 1) := by decide +kernel
theorem d_Mod_grips_82 : decode M_Mod_grips.2.1 82 = .ok (.iload_n 1, 1) := by decide +kernel
theorem d_Mod_grips_83 : decode M_Mod_grips.2.1 83 = .ok (.iconst 3, 1) := by decide +kernel
theorem d_Mod_grips_84 : decode M_Mod_grips.2.1 84 = .ok (.iload_n 3, 1) := by decide +kernel
theorem d_Mod_grips_85 : decode M_Mod_grips.2.1 85 = .ok (.invokevirtual 332, 3) := by decide +kernel
theorem d_Mod_grips_88 : decode M_Mod_grips.2.1 88 = .ok (.aload_n 0, 1) := by decide +kernel
theorem d_Mod_grips_89 : decode M_Mod_grips.2.1 89 = .ok (.getfield 15, 3) := by decide +kernel
theorem d_Mod_grips_92 : decode M_Mod_grips.2.1 92 = .ok (.iload_n 1, 1) := by decide +kernel
theorem d_Mod_grips_93 : decode M_Mod_grips.2.1 93 = .ok (.iaload, 1) := by decide +kernel
theorem d_Mod_grips_94 : decode M_Mod_grips.2.1 94 = .ok (.ixor, 1) := by decide +kernel
theorem d_Mod_grips_95 : decode M_Mod_grips.2.1 95 = .ok (.ireturn, 1) := by decide +kernel
def M_Mod_lets : XM := (⟨"HandshakeBindsModel", "lets", "(III)I"⟩, prog_11_method_70_code, 5, (some .int))
theorem d_Mod_lets_0 : decode M_Mod_lets.2.1 0 = .ok (.iload_n 2, 1) := by decide +kernel
theorem d_Mod_lets_1 : decode M_Mod_lets.2.1 1 = .ok (.tableswitch 128 0 6 #[102, 43, 128, 128, 60, 128, 76], 43) := by decide +kernel
theorem d_Mod_lets_103 : decode M_Mod_lets.2.1 103 = .ok (.aload_n 0, 1) := by decide +kernel
theorem d_Mod_lets_104 : decode M_Mod_lets.2.1 104 = .ok (.bipush 11, 2) := by decide +kernel
theorem d_Mod_lets_106 : decode M_Mod_lets.2.1 106 = .ok (.invokevirtual 329, 3) := by decide +kernel
theorem d_Mod_lets_109 : decode M_Mod_lets.2.1 109 = .ok (.aload_n 0, 1) := by decide +kernel
theorem d_Mod_lets_110 : decode M_Mod_lets.2.1 110 = .ok (.iload_n 1, 1) := by decide +kernel
theorem d_Mod_lets_111 : decode M_Mod_lets.2.1 111 = .ok (.aload_n 0, 1) := by decide +kernel
theorem d_Mod_lets_112 : decode M_Mod_lets.2.1 112 = .ok (.getfield 9, 3) := by decide +kernel
theorem d_Mod_lets_115 : decode M_Mod_lets.2.1 115 = .ok (.iload_n 1, 1) := by decide +kernel
theorem d_Mod_lets_116 : decode M_Mod_lets.2.1 116 = .ok (.iaload, 1) := by decide +kernel
theorem d_Mod_lets_117 : decode M_Mod_lets.2.1 117 = .ok (.iload_n 3, 1) := by decide +kernel
theorem d_Mod_lets_118 : decode M_Mod_lets.2.1 118 = .ok (.invokevirtual 332, 3) := by decide +kernel
theorem d_Mod_lets_121 : decode M_Mod_lets.2.1 121 = .ok (.aload_n 0, 1) := by decide +kernel
theorem d_Mod_lets_122 : decode M_Mod_lets.2.1 122 = .ok (.getfield 15, 3) := by decide +kernel
theorem d_Mod_lets_125 : decode M_Mod_lets.2.1 125 = .ok (.iload_n 1, 1) := by decide +kernel
theorem d_Mod_lets_126 : decode M_Mod_lets.2.1 126 = .ok (.iaload, 1) := by decide +kernel
theorem d_Mod_lets_127 : decode M_Mod_lets.2.1 127 = .ok (.isub, 1) := by decide +kernel
theorem d_Mod_lets_128 : decode M_Mod_lets.2.1 128 = .ok (.ireturn, 1) := by decide +kernel
theorem d_Mod_lets_44 : decode M_Mod_lets.2.1 44 = .ok (.aload_n 0, 1) := by decide +kernel
theorem d_Mod_lets_45 : decode M_Mod_lets.2.1 45 = .ok (.bipush 20, 2) := by decide +kernel
theorem d_Mod_lets_47 : decode M_Mod_lets.2.1 47 = .ok (.invokevirtual 329, 3) := by decide +kernel
theorem d_Mod_lets_50 : decode M_Mod_lets.2.1 50 = .ok (.aload_n 0, 1) := by decide +kernel
theorem d_Mod_lets_51 : decode M_Mod_lets.2.1 51 = .ok (.iload_n 1, 1) := by decide +kernel
theorem d_Mod_lets_52 : decode M_Mod_lets.2.1 52 = .ok (.iconst 0, 1) := by decide +kernel
theorem d_Mod_lets_53 : decode M_Mod_lets.2.1 53 = .ok (.iload_n 3, 1) := by decide +kernel
theorem d_Mod_lets_54 : decode M_Mod_lets.2.1 54 = .ok (.invokevirtual 339, 3) := by decide +kernel
theorem ln_Mod_339 : Cond.methodLink "HandshakeBindsModel" 339 M_Mod_lets.1 ∈ TB := inTB 1336 (by decide +kernel) rfl
theorem lk_Mod_lets : LVt M_Mod_lets 3 := ⟨⟨inTB 72 (by decide +kernel) rfl, inTB 1339 (by decide +kernel) rfl, ⟨by decide, by decide, by decide +kernel⟩, by decide⟩, inTB 1338 (by decide +kernel) rfl, inTB 59 (by decide +kernel) rfl⟩
theorem d_Mod_lets_57 : decode M_Mod_lets.2.1 57 = .ok (.bipush 6, 2) := by decide +kernel
theorem d_Mod_lets_59 : decode M_Mod_lets.2.1 59 = .ok (.ixor, 1) := by decide +kernel
theorem d_Mod_lets_60 : decode M_Mod_lets.2.1 60 = .ok (.ireturn, 1) := by decide +kernel
theorem d_Mod_lets_129 : decode M_Mod_lets.2.1 129 = .ok (.aload_n 0, 1) := by decide +kernel
theorem d_Mod_lets_130 : decode M_Mod_lets.2.1 130 = .ok (.iload_n 1, 1) := by decide +kernel
theorem d_Mod_lets_131 : decode M_Mod_lets.2.1 131 = .ok (.iload_n 2, 1) := by decide +kernel
theorem d_Mod_lets_132 : decode M_Mod_lets.2.1 132 = .ok (.invokestatic 336, 3) := by decide +kernel
theorem d_Mod_lets_135 : decode M_Mod_lets.2.1 135 = .ok (.iload_n 3, 1) := by decide +kernel
theorem d_Mod_lets_136 : decode M_Mod_lets.2.1 136 = .ok (.invokevirtual 339, 3) := by decide +kernel
theorem d_Mod_lets_139 : decode M_Mod_lets.2.1 139 = .ok (.ireturn, 1) := by decide +kernel
theorem d_Mod_lets_61 : decode M_Mod_lets.2.1 61 = .ok (.aload_n 0, 1) := by decide +kernel
theorem d_Mod_lets_62 : decode M_Mod_lets.2.1 62 = .ok (.bipush 51, 2) := by decide +kernel
theorem d_Mod_lets_64 : decode M_Mod_lets.2.1 64 = .ok (.invokevirtual 329, 3) := by decide +kernel
theorem d_Mod_lets_67 : decode M_Mod_lets.2.1 67 = .ok (.aload_n 0, 1) := by decide +kernel
theorem d_Mod_lets_68 : decode M_Mod_lets.2.1 68 = .ok (.iload_n 1, 1) := by decide +kernel
theorem d_Mod_lets_69 : decode M_Mod_lets.2.1 69 = .ok (.iconst 1, 1) := by decide +kernel
theorem d_Mod_lets_70 : decode M_Mod_lets.2.1 70 = .ok (.iload_n 3, 1) := by decide +kernel
theorem d_Mod_lets_71 : decode M_Mod_lets.2.1 71 = .ok (.iconst 1, 1) := by decide +kernel
theorem d_Mod_lets_72 : decode M_Mod_lets.2.1 72 = .ok (.iadd, 1) := by decide +kernel
theorem d_Mod_lets_73 : decode M_Mod_lets.2.1 73 = .ok (.invokevirtual 339, 3) := by decide +kernel
theorem d_Mod_lets_76 : decode M_Mod_lets.2.1 76 = .ok (.ireturn, 1) := by decide +kernel
theorem d_Mod_lets_77 : decode M_Mod_lets.2.1 77 = .ok (.aload_n 0, 1) := by decide +kernel
theorem d_Mod_lets_78 : decode M_Mod_lets.2.1 78 = .ok (.bipush 70, 2) := by decide +kernel
theorem d_Mod_lets_80 : decode M_Mod_lets.2.1 80 = .ok (.invokevirtual 329, 3) := by decide +kernel
theorem d_Mod_lets_83 : decode M_Mod_lets.2.1 83 = .ok (.aload_n 0, 1) := by decide +kernel
theorem d_Mod_lets_84 : decode M_Mod_lets.2.1 84 = .ok (.iload_n 1, 1) := by decide +kernel
theorem d_Mod_lets_85 : decode M_Mod_lets.2.1 85 = .ok (.iconst 3, 1) := by decide +kernel
theorem d_Mod_lets_86 : decode M_Mod_lets.2.1 86 = .ok (.iload_n 3, 1) := by decide +kernel
theorem d_Mod_lets_87 : decode M_Mod_lets.2.1 87 = .ok (.invokevirtual 339, 3) := by decide +kernel
theorem d_Mod_lets_90 : decode M_Mod_lets.2.1 90 = .ok (.istore 4, 2) := by decide +kernel
theorem d_Mod_lets_92 : decode M_Mod_lets.2.1 92 = .ok (.iload 4, 2) := by decide +kernel
theorem d_Mod_lets_94 : decode M_Mod_lets.2.1 94 = .ok (.aload_n 0, 1) := by decide +kernel
theorem d_Mod_lets_95 : decode M_Mod_lets.2.1 95 = .ok (.iload_n 1, 1) := by decide +kernel
theorem d_Mod_lets_96 : decode M_Mod_lets.2.1 96 = .ok (.iconst 3, 1) := by decide +kernel
theorem d_Mod_lets_97 : decode M_Mod_lets.2.1 97 = .ok (.iconst 2, 1) := by decide +kernel
theorem d_Mod_lets_98 : decode M_Mod_lets.2.1 98 = .ok (.invokevirtual 332, 3) := by decide +kernel
theorem d_Mod_lets_101 : decode M_Mod_lets.2.1 101 = .ok (.iadd, 1) := by decide +kernel
theorem d_Mod_lets_102 : decode M_Mod_lets.2.1 102 = .ok (.ireturn, 1) := by decide +kernel
def M_Mod_tells : XM := (⟨"HandshakeBindsModel", "tells", "(III)I"⟩, prog_11_method_71_code, 5, (some .int))
theorem d_Mod_tells_0 : decode M_Mod_tells.2.1 0 = .ok (.iload_n 2, 1) := by decide +kernel
theorem d_Mod_tells_1 : decode M_Mod_tells.2.1 1 = .ok (.lookupswitch 103 #[(0, 82), (3, 35), (5, 66)], 35) := by decide +kernel
theorem d_Mod_tells_83 : decode M_Mod_tells.2.1 83 = .ok (.aload_n 0, 1) := by decide +kernel
theorem d_Mod_tells_84 : decode M_Mod_tells.2.1 84 = .ok (.bipush 12, 2) := by decide +kernel
theorem d_Mod_tells_86 : decode M_Mod_tells.2.1 86 = .ok (.invokevirtual 329, 3) := by decide +kernel
theorem d_Mod_tells_89 : decode M_Mod_tells.2.1 89 = .ok (.aload_n 0, 1) := by decide +kernel
theorem d_Mod_tells_90 : decode M_Mod_tells.2.1 90 = .ok (.iload_n 1, 1) := by decide +kernel
theorem d_Mod_tells_91 : decode M_Mod_tells.2.1 91 = .ok (.aload_n 0, 1) := by decide +kernel
theorem d_Mod_tells_92 : decode M_Mod_tells.2.1 92 = .ok (.getfield 9, 3) := by decide +kernel
theorem d_Mod_tells_95 : decode M_Mod_tells.2.1 95 = .ok (.iload_n 1, 1) := by decide +kernel
theorem d_Mod_tells_96 : decode M_Mod_tells.2.1 96 = .ok (.iaload, 1) := by decide +kernel
theorem d_Mod_tells_97 : decode M_Mod_tells.2.1 97 = .ok (.iload_n 3, 1) := by decide +kernel
theorem d_Mod_tells_98 : decode M_Mod_tells.2.1 98 = .ok (.invokevirtual 339, 3) := by decide +kernel
theorem d_Mod_tells_101 : decode M_Mod_tells.2.1 101 = .ok (.iconst 2, 1) := by decide +kernel
theorem d_Mod_tells_102 : decode M_Mod_tells.2.1 102 = .ok (.imul, 1) := by decide +kernel
theorem d_Mod_tells_103 : decode M_Mod_tells.2.1 103 = .ok (.ireturn, 1) := by decide +kernel
theorem d_Mod_tells_36 : decode M_Mod_tells.2.1 36 = .ok (.aload_n 0, 1) := by decide +kernel
theorem d_Mod_tells_37 : decode M_Mod_tells.2.1 37 = .ok (.bipush 40, 2) := by decide +kernel
theorem d_Mod_tells_39 : decode M_Mod_tells.2.1 39 = .ok (.invokevirtual 329, 3) := by decide +kernel
theorem d_Mod_tells_42 : decode M_Mod_tells.2.1 42 = .ok (.aload_n 0, 1) := by decide +kernel
theorem d_Mod_tells_43 : decode M_Mod_tells.2.1 43 = .ok (.iload_n 1, 1) := by decide +kernel
theorem d_Mod_tells_44 : decode M_Mod_tells.2.1 44 = .ok (.iconst 0, 1) := by decide +kernel
theorem d_Mod_tells_45 : decode M_Mod_tells.2.1 45 = .ok (.iload_n 3, 1) := by decide +kernel
theorem d_Mod_tells_46 : decode M_Mod_tells.2.1 46 = .ok (.invokevirtual 342, 3) := by decide +kernel
theorem ln_Mod_342 : Cond.methodLink "HandshakeBindsModel" 342 M_Mod_tells.1 ∈ TB := inTB 1340 (by decide +kernel) rfl
theorem lk_Mod_tells : LVt M_Mod_tells 3 := ⟨⟨inTB 72 (by decide +kernel) rfl, inTB 1343 (by decide +kernel) rfl, ⟨by decide, by decide, by decide +kernel⟩, by decide⟩, inTB 1342 (by decide +kernel) rfl, inTB 60 (by decide +kernel) rfl⟩
theorem d_Mod_tells_49 : decode M_Mod_tells.2.1 49 = .ok (.istore 4, 2) := by decide +kernel
theorem d_Mod_tells_51 : decode M_Mod_tells.2.1 51 = .ok (.iload 4, 2) := by decide +kernel
theorem d_Mod_tells_53 : decode M_Mod_tells.2.1 53 = .ok (.aload_n 0, 1) := by decide +kernel
theorem d_Mod_tells_54 : decode M_Mod_tells.2.1 54 = .ok (.iload_n 1, 1) := by decide +kernel
theorem d_Mod_tells_55 : decode M_Mod_tells.2.1 55 = .ok (.aload_n 0, 1) := by decide +kernel
theorem d_Mod_tells_56 : decode M_Mod_tells.2.1 56 = .ok (.getfield 9, 3) := by decide +kernel
theorem d_Mod_tells_59 : decode M_Mod_tells.2.1 59 = .ok (.iload_n 1, 1) := by decide +kernel
theorem d_Mod_tells_60 : decode M_Mod_tells.2.1 60 = .ok (.iaload, 1) := by decide +kernel
theorem d_Mod_tells_61 : decode M_Mod_tells.2.1 61 = .ok (.iconst 1, 1) := by decide +kernel
theorem d_Mod_tells_62 : decode M_Mod_tells.2.1 62 = .ok (.invokevirtual 339, 3) := by decide +kernel
theorem d_Mod_tells_65 : decode M_Mod_tells.2.1 65 = .ok (.iadd, 1) := by decide +kernel
theorem d_Mod_tells_66 : decode M_Mod_tells.2.1 66 = .ok (.ireturn, 1) := by decide +kernel
theorem d_Mod_tells_67 : decode M_Mod_tells.2.1 67 = .ok (.aload_n 0, 1) := by decide +kernel
theorem d_Mod_tells_68 : decode M_Mod_tells.2.1 68 = .ok (.bipush 60, 2) := by decide +kernel
theorem d_Mod_tells_70 : decode M_Mod_tells.2.1 70 = .ok (.invokevirtual 329, 3) := by decide +kernel
theorem d_Mod_tells_73 : decode M_Mod_tells.2.1 73 = .ok (.aload_n 0, 1) := by decide +kernel
theorem d_Mod_tells_74 : decode M_Mod_tells.2.1 74 = .ok (.iload_n 1, 1) := by decide +kernel
theorem d_Mod_tells_75 : decode M_Mod_tells.2.1 75 = .ok (.iconst 2, 1) := by decide +kernel
theorem d_Mod_tells_76 : decode M_Mod_tells.2.1 76 = .ok (.iload_n 3, 1) := by decide +kernel
theorem d_Mod_tells_77 : decode M_Mod_tells.2.1 77 = .ok (.iload_n 1, 1) := by decide +kernel
theorem d_Mod_tells_78 : decode M_Mod_tells.2.1 78 = .ok (.isub, 1) := by decide +kernel
theorem d_Mod_tells_79 : decode M_Mod_tells.2.1 79 = .ok (.invokevirtual 342, 3) := by decide +kernel
theorem d_Mod_tells_82 : decode M_Mod_tells.2.1 82 = .ok (.ireturn, 1) := by decide +kernel
theorem d_Mod_tells_104 : decode M_Mod_tells.2.1 104 = .ok (.aload_n 0, 1) := by decide +kernel
theorem d_Mod_tells_105 : decode M_Mod_tells.2.1 105 = .ok (.iload_n 1, 1) := by decide +kernel
theorem d_Mod_tells_106 : decode M_Mod_tells.2.1 106 = .ok (.iload_n 2, 1) := by decide +kernel
theorem d_Mod_tells_107 : decode M_Mod_tells.2.1 107 = .ok (.invokestatic 336, 3) := by decide +kernel
theorem d_Mod_tells_110 : decode M_Mod_tells.2.1 110 = .ok (.iload_n 3, 1) := by decide +kernel
theorem d_Mod_tells_111 : decode M_Mod_tells.2.1 111 = .ok (.invokevirtual 342, 3) := by decide +kernel
theorem d_Mod_tells_114 : decode M_Mod_tells.2.1 114 = .ok (.ireturn, 1) := by decide +kernel
theorem c_Mod_above (X : Xn) (k : Nat) (hk : k ≤ 6) : Does X 1 M_Mod_above [.int (nI k)] ([]) 0 0 (fun (vv : Option Value) (ww : va_W) => vv = some (.int (nI (abv k))) ∧ ww = []) := by
  generalize hQ : (fun (vv : Option Value) (ww : va_W) => vv = some (.int (nI (abv k))) ∧ ww = []) = Q
  refine Does.go rfl (Nat.le_of_ble_eq_true rfl) [some (.int (nI k))] 0 rfl ?_
  refine r_iload_n rfl 1 rfl d_Mod_above_0 ?_
  refine r_iconst (nI 4) rfl 2 rfl d_Mod_above_1 ?_
  refine r_icmp_neN k 4 (by omega) (by omega) 5 9 rfl rfl d_Mod_above_2 (fun h2 => ?_) (fun h2 => ?_)
  · refine r_iload_n rfl 10 rfl d_Mod_above_9 ?_
    refine r_iconst (nI 5) rfl 11 rfl d_Mod_above_10 ?_
    refine r_icmp_neN k 5 (by omega) (by omega) 14 18 rfl rfl d_Mod_above_11 (fun h11 => ?_) (fun h11 => ?_)
    · refine r_iload_n rfl 19 rfl d_Mod_above_18 ?_
      refine r_bipush (nI 6) rfl 21 rfl d_Mod_above_19 ?_
      refine r_icmp_neN k 6 (by omega) (by omega) 24 28 rfl rfl d_Mod_above_21 (fun h21 => ?_) (fun h21 => ?_)
      · refine r_iconst (nI 0) rfl 29 rfl d_Mod_above_28 ?_
        exact r_iret rfl (Nat.zero_le _) (Nat.zero_le _) d_Mod_above_29 (by rw [← hQ]; exact ⟨by simp [abv, h2, h11, h21], rfl⟩)
      · refine r_iconst (nI 3) rfl 25 rfl d_Mod_above_24 ?_
        refine r_goto 29 rfl d_Mod_above_25 ?_
        exact r_iret rfl (Nat.zero_le _) (Nat.zero_le _) d_Mod_above_29 (by rw [← hQ]; exact ⟨by simp [abv, h2, h11, h21], rfl⟩)
    · refine r_iconst (nI 2) rfl 15 rfl d_Mod_above_14 ?_
      refine r_goto 29 rfl d_Mod_above_15 ?_
      exact r_iret rfl (Nat.zero_le _) (Nat.zero_le _) d_Mod_above_29 (by rw [← hQ]; exact ⟨by simp [abv, h2, h11], rfl⟩)
  · refine r_iconst (nI 1) rfl 6 rfl d_Mod_above_5 ?_
    refine r_goto 29 rfl d_Mod_above_6 ?_
    exact r_iret rfl (Nat.zero_le _) (Nat.zero_le _) d_Mod_above_29 (by rw [← hQ]; exact ⟨by simp [abv, h2], rfl⟩)
theorem c_Mod_ran (X : Xn) (a ν : Nat → Nat) (σ : Nat → Nat → Int32) (τ : Nat → Int64) (s : Trc) (ht : s.1 < 100000) (b : Nat) : Does X 1 M_Mod_ran [.ref (a 0), .int (nI b)] (MW X a (u1 ν 36 s.1) (u2 σ 37 s.2) τ) 0 0 (fun (vv : Option Value) (ww : va_W) => vv = none ∧ ww = MW X a (u1 ν 36 (rnT s b).1) (u2 σ 37 (rnT s b).2) τ) := by
  generalize hQ : (fun (vv : Option Value) (ww : va_W) => vv = none ∧ ww = MW X a (u1 ν 36 (rnT s b).1) (u2 σ 37 (rnT s b).2) τ) = Q
  refine Does.go rfl (Nat.le_of_ble_eq_true rfl) [some (.ref (a 0)), some (.int (nI b))] 0 rfl ?_
  refine r_aload_n rfl 1 rfl d_Mod_ran_0 ?_
  refine r_getf (v := .int (nI s.1)) gf_Mod_326 0 rfl rfl 4 rfl d_Mod_ran_1 ?_
  refine r_bipush (nI 20) rfl 6 rfl d_Mod_ran_4 ?_
  refine r_icmp_geN s.1 20 (by omega) (by omega) 9 19 rfl rfl d_Mod_ran_6 (fun h6 => ?_) (fun h6 => ?_)
  · refine r_aload_n rfl 20 rfl d_Mod_ran_19 ?_
    refine r_dup rfl 21 rfl d_Mod_ran_20 ?_
    refine r_getf (v := .int (nI s.1)) gf_Mod_326 0 rfl rfl 24 rfl d_Mod_ran_21 ?_
    refine r_iconst (nI 1) rfl 25 rfl d_Mod_ran_24 ?_
    refine r_iadd 26 rfl d_Mod_ran_25 ?_
    refine r_topi (nI (s.1 + 1)) (nI_add _ _) ?_
    refine r_putf (w2 := MW X a (u1 (u1 ν 36 s.1) 36 (s.1 + 1)) (u2 σ 37 s.2) τ) pf_Mod_326 0 rfl (rfl) rfl (Nat.le_of_ble_eq_true rfl) rfl 29 rfl d_Mod_ran_26 ?_
    exact r_vret rfl (Nat.zero_le _) (Nat.zero_le _) d_Mod_ran_29 (by rw [← hQ]; exact ⟨rfl, by simp only [rnT, if_neg (Nat.not_lt.mpr h6), if_true, if_false]; rw [u1_u1]⟩)
  · refine r_aload_n rfl 10 rfl d_Mod_ran_9 ?_
    refine r_getf (v := .ref (a 37)) gf_Mod_82 0 rfl rfl 13 rfl d_Mod_ran_10 ?_
    refine r_aload_n rfl 14 rfl d_Mod_ran_13 ?_
    refine r_getf (v := .int (nI s.1)) gf_Mod_326 0 rfl rfl 17 rfl d_Mod_ran_14 ?_
    refine r_iload_n rfl 18 rfl d_Mod_ran_17 ?_
    refine r_iast (w2 := MW X a (u1 ν 36 s.1) (u2 (u2 σ 37 s.2) 37 (upd s.2 s.1 (nI b))) τ) 24 rfl s.1 rfl (by omega) (by omega) rfl 19 rfl d_Mod_ran_18 ?_
    refine r_aload_n rfl 20 rfl d_Mod_ran_19 ?_
    refine r_dup rfl 21 rfl d_Mod_ran_20 ?_
    refine r_getf (v := .int (nI s.1)) gf_Mod_326 0 rfl rfl 24 rfl d_Mod_ran_21 ?_
    refine r_iconst (nI 1) rfl 25 rfl d_Mod_ran_24 ?_
    refine r_iadd 26 rfl d_Mod_ran_25 ?_
    refine r_topi (nI (s.1 + 1)) (nI_add _ _) ?_
    refine r_putf (w2 := MW X a (u1 (u1 ν 36 s.1) 36 (s.1 + 1)) (u2 (u2 σ 37 s.2) 37 (upd s.2 s.1 (nI b))) τ) pf_Mod_326 0 rfl (rfl) rfl (Nat.le_of_ble_eq_true rfl) rfl 29 rfl d_Mod_ran_26 ?_
    exact r_vret rfl (Nat.zero_le _) (Nat.zero_le _) d_Mod_ran_29 (by rw [← hQ]; exact ⟨rfl, by simp only [rnT, if_pos h6, if_true, if_false]; rw [u1_u1, u2_u2]⟩)
theorem c_Mod_grips (X : Xn) (a ν : Nat → Nat) (σ : Nat → Nat → Int32) (τ : Nat → Int64) (p : Nat) (v : Int32) (hkp : p < 6) (hv : σ 2 p = v) : ∀ (fu : Nat) (k : Nat) (x : Int32) (s : Trc), (k ≤ 6) → (k < fu) → (s.1 + 1 * fu < 100000) → Does X (2 + fu) M_Mod_grips [.ref (a 0), .int (nI p), .int (nI k), .int x] (MW X a (u1 ν 36 s.1) (u2 σ 37 s.2) τ) 0 0 (fun (vv : Option Value) (ww : va_W) => vv = some (.int (gr p v fu k x s).1) ∧ ww = MW X a (u1 ν 36 ((gr p v fu k x s).2).1) (u2 σ 37 ((gr p v fu k x s).2).2) τ) := by
  intro fu
  induction fu with
  | zero => intro k x s hk hf hs; exact absurd hf (Nat.not_lt_zero _)
  | succ fu ihf =>
  intro k x s hk hf hs
  generalize hQ : (fun (vv : Option Value) (ww : va_W) => vv = some (.int (gr p v (fu + 1) k x s).1) ∧ ww = MW X a (u1 ν 36 ((gr p v (fu + 1) k x s).2).1) (u2 σ 37 ((gr p v (fu + 1) k x s).2).2) τ) = Q
  refine Does.go rfl (Nat.le_of_ble_eq_true rfl) [some (.ref (a 0)), some (.int (nI p)), some (.int (nI k)), some (.int x)] 0 rfl ?_
  refine r_iload_n rfl 1 rfl d_Mod_grips_0 ?_
  by_cases h1_0 : nI k = 0
  · refine r_tableIn 96 d_Mod_grips_1 (by rw [h1_0]; decide) (by rw [h1_0]; decide) (by rw [h1_0]; try rfl) rfl ?_
    obtain rfl : k = 0 := (nI_eq (by omega) (by decide)).mp h1_0
    refine r_aload_n rfl 97 rfl d_Mod_grips_96 ?_
    refine r_bipush (nI 10) rfl 99 rfl d_Mod_grips_97 ?_
    refine r_callVA1 (st2 := []) (w2 := MW X a (u1 ν 36 (rnT s 10).1) (u2 σ 37 (rnT s 10).2) τ) lk_Mod_ran ln_Mod_329 (c_Mod_ran X a ν σ τ s (by first | omega | (simp only [rn1]; omega)) 10) (by first | decide | omega) rfl rfl (Nat.le_of_ble_eq_true rfl) (Nat.le_of_ble_eq_true rfl) (Nat.le_of_ble_eq_true rfl) 0 rfl rfl rfl rfl 102 rfl d_Mod_grips_99 ?_
    refine r_iload_n rfl 103 rfl d_Mod_grips_102 ?_
    refine r_iload_n rfl 104 rfl d_Mod_grips_103 ?_
    refine r_iadd 105 rfl d_Mod_grips_104 ?_
    exact r_iret rfl (Nat.zero_le _) (Nat.zero_le _) d_Mod_grips_105 (by rw [← hQ]; exact ⟨rfl, rfl⟩)
  by_cases h1_1 : nI k = 1
  · refine r_tableIn 106 d_Mod_grips_1 (by rw [h1_1]; decide) (by rw [h1_1]; decide) (by rw [h1_1]; try rfl) rfl ?_
    obtain rfl : k = 1 := (nI_eq (by omega) (by decide)).mp h1_1
    refine r_aload_n rfl 107 rfl d_Mod_grips_106 ?_
    refine r_iload_n rfl 108 rfl d_Mod_grips_107 ?_
    refine r_iload_n rfl 109 rfl d_Mod_grips_108 ?_
    refine r_callS1 (st2 := [.int (nI (abv 1)), .int (nI p), .ref (a 0)]) (w2 := MW X a (u1 ν 36 s.1) (u2 σ 37 s.2) τ) lk_Mod_above ln_Mod_336 (c_Mod_above X 1 (by omega)) (by first | decide | omega) rfl rfl (Nat.le_of_ble_eq_true rfl) (Nat.le_of_ble_eq_true rfl) (Nat.le_of_ble_eq_true rfl) [] rfl rfl rfl rfl rfl 112 rfl d_Mod_grips_109 ?_
    refine r_iload_n rfl 113 rfl d_Mod_grips_112 ?_
    refine r_callVA1 (st2 := [.int ((gr p v fu (abv 1) x s).1)]) (w2 := MW X a (u1 ν 36 ((gr p v fu (abv 1) x s).2).1) (u2 σ 37 ((gr p v fu (abv 1) x s).2).2) τ) lk_Mod_grips ln_Mod_332 (ihf (abv 1) x s (by first | omega | (simp only [abv]; (repeat' split) <;> omega)) (by first | omega | (simp only [abv]; (repeat' split) <;> omega)) (by first | omega | (simp only [rn1]; omega))) (by first | decide | omega) rfl rfl (Nat.le_of_ble_eq_true rfl) (Nat.le_of_ble_eq_true rfl) (Nat.le_of_ble_eq_true rfl) 0 rfl rfl rfl rfl 116 rfl d_Mod_grips_113 ?_
    exact r_iret rfl (Nat.zero_le _) (Nat.zero_le _) d_Mod_grips_116 (by rw [← hQ]; exact ⟨rfl, rfl⟩)
  by_cases h1_2 : nI k = 2
  · refine r_tableIn 44 d_Mod_grips_1 (by rw [h1_2]; decide) (by rw [h1_2]; decide) (by rw [h1_2]; try rfl) rfl ?_
    obtain rfl : k = 2 := (nI_eq (by omega) (by decide)).mp h1_2
    refine r_aload_n rfl 45 rfl d_Mod_grips_44 ?_
    refine r_bipush (nI 30) rfl 47 rfl d_Mod_grips_45 ?_
    refine r_callVA1 (st2 := []) (w2 := MW X a (u1 ν 36 (rnT s 30).1) (u2 σ 37 (rnT s 30).2) τ) lk_Mod_ran ln_Mod_329 (c_Mod_ran X a ν σ τ s (by first | omega | (simp only [rn1]; omega)) 30) (by first | decide | omega) rfl rfl (Nat.le_of_ble_eq_true rfl) (Nat.le_of_ble_eq_true rfl) (Nat.le_of_ble_eq_true rfl) 0 rfl rfl rfl rfl 50 rfl d_Mod_grips_47 ?_
    refine r_aload_n rfl 51 rfl d_Mod_grips_50 ?_
    refine r_iload_n rfl 52 rfl d_Mod_grips_51 ?_
    refine r_iconst (nI 0) rfl 53 rfl d_Mod_grips_52 ?_
    refine r_iload_n rfl 54 rfl d_Mod_grips_53 ?_
    refine r_iconst (nI 3) rfl 55 rfl d_Mod_grips_54 ?_
    refine r_imul 56 rfl d_Mod_grips_55 ?_
    refine r_callVA1 (st2 := [.int ((gr p v fu 0 (x * (nI 3)) (rnT s 30)).1)]) (w2 := MW X a (u1 ν 36 ((gr p v fu 0 (x * (nI 3)) (rnT s 30)).2).1) (u2 σ 37 ((gr p v fu 0 (x * (nI 3)) (rnT s 30)).2).2) τ) lk_Mod_grips ln_Mod_332 (ihf 0 (x * (nI 3)) (rnT s 30) (by first | omega | (simp only [abv]; (repeat' split) <;> omega)) (by first | omega | (simp only [abv]; (repeat' split) <;> omega)) (by first | omega | (simp only [rn1]; omega))) (by first | decide | omega) rfl rfl (Nat.le_of_ble_eq_true rfl) (Nat.le_of_ble_eq_true rfl) (Nat.le_of_ble_eq_true rfl) 0 rfl rfl rfl rfl 59 rfl d_Mod_grips_56 ?_
    exact r_iret rfl (Nat.zero_le _) (Nat.zero_le _) d_Mod_grips_59 (by rw [← hQ]; exact ⟨rfl, rfl⟩)
  by_cases h1_3 : nI k = 3
  · refine r_tableIn 106 d_Mod_grips_1 (by rw [h1_3]; decide) (by rw [h1_3]; decide) (by rw [h1_3]; try rfl) rfl ?_
    obtain rfl : k = 3 := (nI_eq (by omega) (by decide)).mp h1_3
    refine r_aload_n rfl 107 rfl d_Mod_grips_106 ?_
    refine r_iload_n rfl 108 rfl d_Mod_grips_107 ?_
    refine r_iload_n rfl 109 rfl d_Mod_grips_108 ?_
    refine r_callS1 (st2 := [.int (nI (abv 3)), .int (nI p), .ref (a 0)]) (w2 := MW X a (u1 ν 36 s.1) (u2 σ 37 s.2) τ) lk_Mod_above ln_Mod_336 (c_Mod_above X 3 (by omega)) (by first | decide | omega) rfl rfl (Nat.le_of_ble_eq_true rfl) (Nat.le_of_ble_eq_true rfl) (Nat.le_of_ble_eq_true rfl) [] rfl rfl rfl rfl rfl 112 rfl d_Mod_grips_109 ?_
    refine r_iload_n rfl 113 rfl d_Mod_grips_112 ?_
    refine r_callVA1 (st2 := [.int ((gr p v fu (abv 3) x s).1)]) (w2 := MW X a (u1 ν 36 ((gr p v fu (abv 3) x s).2).1) (u2 σ 37 ((gr p v fu (abv 3) x s).2).2) τ) lk_Mod_grips ln_Mod_332 (ihf (abv 3) x s (by first | omega | (simp only [abv]; (repeat' split) <;> omega)) (by first | omega | (simp only [abv]; (repeat' split) <;> omega)) (by first | omega | (simp only [rn1]; omega))) (by first | decide | omega) rfl rfl (Nat.le_of_ble_eq_true rfl) (Nat.le_of_ble_eq_true rfl) (Nat.le_of_ble_eq_true rfl) 0 rfl rfl rfl rfl 116 rfl d_Mod_grips_113 ?_
    exact r_iret rfl (Nat.zero_le _) (Nat.zero_le _) d_Mod_grips_116 (by rw [← hQ]; exact ⟨rfl, rfl⟩)
  by_cases h1_4 : nI k = 4
  · refine r_tableIn 60 d_Mod_grips_1 (by rw [h1_4]; decide) (by rw [h1_4]; decide) (by rw [h1_4]; try rfl) rfl ?_
    obtain rfl : k = 4 := (nI_eq (by omega) (by decide)).mp h1_4
    refine r_aload_n rfl 61 rfl d_Mod_grips_60 ?_
    refine r_bipush (nI 50) rfl 63 rfl d_Mod_grips_61 ?_
    refine r_callVA1 (st2 := []) (w2 := MW X a (u1 ν 36 (rnT s 50).1) (u2 σ 37 (rnT s 50).2) τ) lk_Mod_ran ln_Mod_329 (c_Mod_ran X a ν σ τ s (by first | omega | (simp only [rn1]; omega)) 50) (by first | decide | omega) rfl rfl (Nat.le_of_ble_eq_true rfl) (Nat.le_of_ble_eq_true rfl) (Nat.le_of_ble_eq_true rfl) 0 rfl rfl rfl rfl 66 rfl d_Mod_grips_63 ?_
    refine r_aload_n rfl 67 rfl d_Mod_grips_66 ?_
    refine r_iload_n rfl 68 rfl d_Mod_grips_67 ?_
    refine r_iconst (nI 1) rfl 69 rfl d_Mod_grips_68 ?_
    refine r_iload_n rfl 70 rfl d_Mod_grips_69 ?_
    refine r_callVA1 (st2 := [.int ((gr p v fu 1 x (rnT s 50)).1)]) (w2 := MW X a (u1 ν 36 ((gr p v fu 1 x (rnT s 50)).2).1) (u2 σ 37 ((gr p v fu 1 x (rnT s 50)).2).2) τ) lk_Mod_grips ln_Mod_332 (ihf 1 x (rnT s 50) (by first | omega | (simp only [abv]; (repeat' split) <;> omega)) (by first | omega | (simp only [abv]; (repeat' split) <;> omega)) (by first | omega | (simp only [rn1]; omega))) (by first | decide | omega) rfl rfl (Nat.le_of_ble_eq_true rfl) (Nat.le_of_ble_eq_true rfl) (Nat.le_of_ble_eq_true rfl) 0 rfl rfl rfl rfl 73 rfl d_Mod_grips_70 ?_
    refine r_ineg 74 rfl d_Mod_grips_73 ?_
    exact r_iret rfl (Nat.zero_le _) (Nat.zero_le _) d_Mod_grips_74 (by rw [← hQ]; exact ⟨rfl, rfl⟩)
  by_cases h1_5 : nI k = 5
  · refine r_tableIn 106 d_Mod_grips_1 (by rw [h1_5]; decide) (by rw [h1_5]; decide) (by rw [h1_5]; try rfl) rfl ?_
    obtain rfl : k = 5 := (nI_eq (by omega) (by decide)).mp h1_5
    refine r_aload_n rfl 107 rfl d_Mod_grips_106 ?_
    refine r_iload_n rfl 108 rfl d_Mod_grips_107 ?_
    refine r_iload_n rfl 109 rfl d_Mod_grips_108 ?_
    refine r_callS1 (st2 := [.int (nI (abv 5)), .int (nI p), .ref (a 0)]) (w2 := MW X a (u1 ν 36 s.1) (u2 σ 37 s.2) τ) lk_Mod_above ln_Mod_336 (c_Mod_above X 5 (by omega)) (by first | decide | omega) rfl rfl (Nat.le_of_ble_eq_true rfl) (Nat.le_of_ble_eq_true rfl) (Nat.le_of_ble_eq_true rfl) [] rfl rfl rfl rfl rfl 112 rfl d_Mod_grips_109 ?_
    refine r_iload_n rfl 113 rfl d_Mod_grips_112 ?_
    refine r_callVA1 (st2 := [.int ((gr p v fu (abv 5) x s).1)]) (w2 := MW X a (u1 ν 36 ((gr p v fu (abv 5) x s).2).1) (u2 σ 37 ((gr p v fu (abv 5) x s).2).2) τ) lk_Mod_grips ln_Mod_332 (ihf (abv 5) x s (by first | omega | (simp only [abv]; (repeat' split) <;> omega)) (by first | omega | (simp only [abv]; (repeat' split) <;> omega)) (by first | omega | (simp only [rn1]; omega))) (by first | decide | omega) rfl rfl (Nat.le_of_ble_eq_true rfl) (Nat.le_of_ble_eq_true rfl) (Nat.le_of_ble_eq_true rfl) 0 rfl rfl rfl rfl 116 rfl d_Mod_grips_113 ?_
    exact r_iret rfl (Nat.zero_le _) (Nat.zero_le _) d_Mod_grips_116 (by rw [← hQ]; exact ⟨rfl, rfl⟩)
  by_cases h1_6 : nI k = 6
  · refine r_tableIn 75 d_Mod_grips_1 (by rw [h1_6]; decide) (by rw [h1_6]; decide) (by rw [h1_6]; try rfl) rfl ?_
    obtain rfl : k = 6 := (nI_eq (by omega) (by decide)).mp h1_6
    refine r_aload_n rfl 76 rfl d_Mod_grips_75 ?_
    refine r_bipush (nI 71) rfl 78 rfl d_Mod_grips_76 ?_
    refine r_callVA1 (st2 := []) (w2 := MW X a (u1 ν 36 (rnT s 71).1) (u2 σ 37 (rnT s 71).2) τ) lk_Mod_ran ln_Mod_329 (c_Mod_ran X a ν σ τ s (by first | omega | (simp only [rn1]; omega)) 71) (by first | decide | omega) rfl rfl (Nat.le_of_ble_eq_true rfl) (Nat.le_of_ble_eq_true rfl) (Nat.le_of_ble_eq_true rfl) 0 rfl rfl rfl rfl 81 rfl d_Mod_grips_78 ?_
    refine r_aload_n rfl 82 rfl d_Mod_grips_81 ?_
    refine r_iload_n rfl 83 rfl d_Mod_grips_82 ?_
    refine r_iconst (nI 3) rfl 84 rfl d_Mod_grips_83 ?_
    refine r_iload_n rfl 85 rfl d_Mod_grips_84 ?_
    refine r_callVA1 (st2 := [.int ((gr p v fu 3 x (rnT s 71)).1)]) (w2 := MW X a (u1 ν 36 ((gr p v fu 3 x (rnT s 71)).2).1) (u2 σ 37 ((gr p v fu 3 x (rnT s 71)).2).2) τ) lk_Mod_grips ln_Mod_332 (ihf 3 x (rnT s 71) (by first | omega | (simp only [abv]; (repeat' split) <;> omega)) (by first | omega | (simp only [abv]; (repeat' split) <;> omega)) (by first | omega | (simp only [rn1]; omega))) (by first | decide | omega) rfl rfl (Nat.le_of_ble_eq_true rfl) (Nat.le_of_ble_eq_true rfl) (Nat.le_of_ble_eq_true rfl) 0 rfl rfl rfl rfl 88 rfl d_Mod_grips_85 ?_
    refine r_aload_n rfl 89 rfl d_Mod_grips_88 ?_
    refine r_getf (v := .ref (a 2)) gf_Mod_15 0 rfl rfl 92 rfl d_Mod_grips_89 ?_
    refine r_iload_n rfl 93 rfl d_Mod_grips_92 ?_
    refine r_iald 2 rfl p rfl (by omega) (by omega) 94 rfl d_Mod_grips_93 ?_
    refine r_topi v hv ?_
    refine r_ixor 95 rfl d_Mod_grips_94 ?_
    exact r_iret rfl (Nat.zero_le _) (Nat.zero_le _) d_Mod_grips_95 (by rw [← hQ]; exact ⟨rfl, rfl⟩)
  have t1_0 : ¬ (nI k).toInt = 0 := lv_neT h1_0 (by decide)
  have t1_1 : ¬ (nI k).toInt = 1 := lv_neT h1_1 (by decide)
  have t1_2 : ¬ (nI k).toInt = 2 := lv_neT h1_2 (by decide)
  have t1_3 : ¬ (nI k).toInt = 3 := lv_neT h1_3 (by decide)
  have t1_4 : ¬ (nI k).toInt = 4 := lv_neT h1_4 (by decide)
  have t1_5 : ¬ (nI k).toInt = 5 := lv_neT h1_5 (by decide)
  have t1_6 : ¬ (nI k).toInt = 6 := lv_neT h1_6 (by decide)
  refine r_tableOut 106 d_Mod_grips_1 (by omega) rfl ?_
  have z0 : ¬ k = 0 := fun z => h1_0 (by rw [z]; rfl)
  have z2 : ¬ k = 2 := fun z => h1_2 (by rw [z]; rfl)
  have z4 : ¬ k = 4 := fun z => h1_4 (by rw [z]; rfl)
  have z6 : ¬ k = 6 := fun z => h1_6 (by rw [z]; rfl)
  refine r_aload_n rfl 107 rfl d_Mod_grips_106 ?_
  refine r_iload_n rfl 108 rfl d_Mod_grips_107 ?_
  refine r_iload_n rfl 109 rfl d_Mod_grips_108 ?_
  refine r_callS1 (st2 := [.int (nI (abv k)), .int (nI p), .ref (a 0)]) (w2 := MW X a (u1 ν 36 s.1) (u2 σ 37 s.2) τ) lk_Mod_above ln_Mod_336 (c_Mod_above X k (by omega)) (by first | decide | omega) rfl rfl (Nat.le_of_ble_eq_true rfl) (Nat.le_of_ble_eq_true rfl) (Nat.le_of_ble_eq_true rfl) [] rfl rfl rfl rfl rfl 112 rfl d_Mod_grips_109 ?_
  refine r_iload_n rfl 113 rfl d_Mod_grips_112 ?_
  refine r_callVA1 (st2 := [.int ((gr p v fu (abv k) x s).1)]) (w2 := MW X a (u1 ν 36 ((gr p v fu (abv k) x s).2).1) (u2 σ 37 ((gr p v fu (abv k) x s).2).2) τ) lk_Mod_grips ln_Mod_332 (ihf (abv k) x s (by first | omega | (simp only [abv]; (repeat' split) <;> omega)) (by first | omega | (simp only [abv]; (repeat' split) <;> omega)) (by first | omega | (simp only [rn1]; omega))) (by first | decide | omega) rfl rfl (Nat.le_of_ble_eq_true rfl) (Nat.le_of_ble_eq_true rfl) (Nat.le_of_ble_eq_true rfl) 0 rfl rfl rfl rfl 116 rfl d_Mod_grips_113 ?_
  exact r_iret rfl (Nat.zero_le _) (Nat.zero_le _) d_Mod_grips_116 (by rw [← hQ]; rw [gr, if_neg z0, if_neg z2, if_neg z4, if_neg z6]; exact ⟨rfl, rfl⟩)
theorem c_Mod_lets (X : Xn) (a ν : Nat → Nat) (σ : Nat → Nat → Int32) (τ : Nat → Int64) (p : Nat) (v : Int32) (hkp : p < 6) (hv : σ 2 p = v) (K : Nat) (hK : σ 1 p = nI K) (hK6 : K ≤ 6) : ∀ (fu : Nat) (k : Nat) (x : Int32) (s : Trc), (k ≤ 6) → (k < fu) → (s.1 + 16 * fu < 100000) → Does X (10 + fu) M_Mod_lets [.ref (a 0), .int (nI p), .int (nI k), .int x] (MW X a (u1 ν 36 s.1) (u2 σ 37 s.2) τ) 0 0 (fun (vv : Option Value) (ww : va_W) => vv = some (.int (le p K v fu k x s).1) ∧ ww = MW X a (u1 ν 36 ((le p K v fu k x s).2).1) (u2 σ 37 ((le p K v fu k x s).2).2) τ) := by
  intro fu
  induction fu with
  | zero => intro k x s hk hf hs; exact absurd hf (Nat.not_lt_zero _)
  | succ fu ihf =>
  intro k x s hk hf hs
  generalize hQ : (fun (vv : Option Value) (ww : va_W) => vv = some (.int (le p K v (fu + 1) k x s).1) ∧ ww = MW X a (u1 ν 36 ((le p K v (fu + 1) k x s).2).1) (u2 σ 37 ((le p K v (fu + 1) k x s).2).2) τ) = Q
  refine Does.go rfl (Nat.le_of_ble_eq_true rfl) [some (.ref (a 0)), some (.int (nI p)), some (.int (nI k)), some (.int x), none] 1 rfl ?_
  refine r_iload_n rfl 1 rfl d_Mod_lets_0 ?_
  by_cases h1_0 : nI k = 0
  · refine r_tableIn 103 d_Mod_lets_1 (by rw [h1_0]; decide) (by rw [h1_0]; decide) (by rw [h1_0]; try rfl) rfl ?_
    obtain rfl : k = 0 := (nI_eq (by omega) (by decide)).mp h1_0
    refine r_aload_n rfl 104 rfl d_Mod_lets_103 ?_
    refine r_bipush (nI 11) rfl 106 rfl d_Mod_lets_104 ?_
    refine r_callVA1 (st2 := []) (w2 := MW X a (u1 ν 36 (rnT s 11).1) (u2 σ 37 (rnT s 11).2) τ) lk_Mod_ran ln_Mod_329 (c_Mod_ran X a ν σ τ s (by first | omega | (simp only [rn1]; omega)) 11) (by first | decide | omega) rfl rfl (Nat.le_of_ble_eq_true rfl) (Nat.le_of_ble_eq_true rfl) (Nat.le_of_ble_eq_true rfl) 0 rfl rfl rfl rfl 109 rfl d_Mod_lets_106 ?_
    refine r_aload_n rfl 110 rfl d_Mod_lets_109 ?_
    refine r_iload_n rfl 111 rfl d_Mod_lets_110 ?_
    refine r_aload_n rfl 112 rfl d_Mod_lets_111 ?_
    refine r_getf (v := .ref (a 1)) gf_Mod_9 0 rfl rfl 115 rfl d_Mod_lets_112 ?_
    refine r_iload_n rfl 116 rfl d_Mod_lets_115 ?_
    refine r_iald 1 rfl p rfl (by omega) (by omega) 117 rfl d_Mod_lets_116 ?_
    refine r_topi (nI K) hK ?_
    refine r_iload_n rfl 118 rfl d_Mod_lets_117 ?_
    refine r_callVA1 (st2 := [.int ((gr p v 7 K x (rnT s 11)).1)]) (w2 := MW X a (u1 ν 36 ((gr p v 7 K x (rnT s 11)).2).1) (u2 σ 37 ((gr p v 7 K x (rnT s 11)).2).2) τ) lk_Mod_grips ln_Mod_332 (c_Mod_grips X a ν σ τ p v hkp hv 7 K x (rnT s 11) (by omega) (by omega) (by first | (simp only [rn1]; omega) | (have := le_cnt p K v fu 3 x (rnT s 70); simp only [rn1] at this; omega))) (by first | decide | omega) rfl rfl (Nat.le_of_ble_eq_true rfl) (Nat.le_of_ble_eq_true rfl) (Nat.le_of_ble_eq_true rfl) 0 rfl rfl rfl rfl 121 rfl d_Mod_lets_118 ?_
    refine r_aload_n rfl 122 rfl d_Mod_lets_121 ?_
    refine r_getf (v := .ref (a 2)) gf_Mod_15 0 rfl rfl 125 rfl d_Mod_lets_122 ?_
    refine r_iload_n rfl 126 rfl d_Mod_lets_125 ?_
    refine r_iald 2 rfl p rfl (by omega) (by omega) 127 rfl d_Mod_lets_126 ?_
    refine r_topi v hv ?_
    refine r_isub 128 rfl d_Mod_lets_127 ?_
    exact r_iret rfl (Nat.zero_le _) (Nat.zero_le _) d_Mod_lets_128 (by rw [← hQ]; exact ⟨rfl, rfl⟩)
  by_cases h1_1 : nI k = 1
  · refine r_tableIn 44 d_Mod_lets_1 (by rw [h1_1]; decide) (by rw [h1_1]; decide) (by rw [h1_1]; try rfl) rfl ?_
    obtain rfl : k = 1 := (nI_eq (by omega) (by decide)).mp h1_1
    refine r_aload_n rfl 45 rfl d_Mod_lets_44 ?_
    refine r_bipush (nI 20) rfl 47 rfl d_Mod_lets_45 ?_
    refine r_callVA1 (st2 := []) (w2 := MW X a (u1 ν 36 (rnT s 20).1) (u2 σ 37 (rnT s 20).2) τ) lk_Mod_ran ln_Mod_329 (c_Mod_ran X a ν σ τ s (by first | omega | (simp only [rn1]; omega)) 20) (by first | decide | omega) rfl rfl (Nat.le_of_ble_eq_true rfl) (Nat.le_of_ble_eq_true rfl) (Nat.le_of_ble_eq_true rfl) 0 rfl rfl rfl rfl 50 rfl d_Mod_lets_47 ?_
    refine r_aload_n rfl 51 rfl d_Mod_lets_50 ?_
    refine r_iload_n rfl 52 rfl d_Mod_lets_51 ?_
    refine r_iconst (nI 0) rfl 53 rfl d_Mod_lets_52 ?_
    refine r_iload_n rfl 54 rfl d_Mod_lets_53 ?_
    refine r_callVA1 (st2 := [.int ((le p K v fu 0 x (rnT s 20)).1)]) (w2 := MW X a (u1 ν 36 ((le p K v fu 0 x (rnT s 20)).2).1) (u2 σ 37 ((le p K v fu 0 x (rnT s 20)).2).2) τ) lk_Mod_lets ln_Mod_339 (ihf 0 x (rnT s 20) (by first | omega | (simp only [abv]; (repeat' split) <;> omega)) (by first | omega | (simp only [abv]; (repeat' split) <;> omega)) (by first | omega | (simp only [rn1]; omega))) (by first | decide | omega) rfl rfl (Nat.le_of_ble_eq_true rfl) (Nat.le_of_ble_eq_true rfl) (Nat.le_of_ble_eq_true rfl) 0 rfl rfl rfl rfl 57 rfl d_Mod_lets_54 ?_
    refine r_bipush (nI 6) rfl 59 rfl d_Mod_lets_57 ?_
    refine r_ixor 60 rfl d_Mod_lets_59 ?_
    exact r_iret rfl (Nat.zero_le _) (Nat.zero_le _) d_Mod_lets_60 (by rw [← hQ]; exact ⟨rfl, rfl⟩)
  by_cases h1_2 : nI k = 2
  · refine r_tableIn 129 d_Mod_lets_1 (by rw [h1_2]; decide) (by rw [h1_2]; decide) (by rw [h1_2]; try rfl) rfl ?_
    obtain rfl : k = 2 := (nI_eq (by omega) (by decide)).mp h1_2
    refine r_aload_n rfl 130 rfl d_Mod_lets_129 ?_
    refine r_iload_n rfl 131 rfl d_Mod_lets_130 ?_
    refine r_iload_n rfl 132 rfl d_Mod_lets_131 ?_
    refine r_callS1 (st2 := [.int (nI (abv 2)), .int (nI p), .ref (a 0)]) (w2 := MW X a (u1 ν 36 s.1) (u2 σ 37 s.2) τ) lk_Mod_above ln_Mod_336 (c_Mod_above X 2 (by omega)) (by first | decide | omega) rfl rfl (Nat.le_of_ble_eq_true rfl) (Nat.le_of_ble_eq_true rfl) (Nat.le_of_ble_eq_true rfl) [] rfl rfl rfl rfl rfl 135 rfl d_Mod_lets_132 ?_
    refine r_iload_n rfl 136 rfl d_Mod_lets_135 ?_
    refine r_callVA1 (st2 := [.int ((le p K v fu (abv 2) x s).1)]) (w2 := MW X a (u1 ν 36 ((le p K v fu (abv 2) x s).2).1) (u2 σ 37 ((le p K v fu (abv 2) x s).2).2) τ) lk_Mod_lets ln_Mod_339 (ihf (abv 2) x s (by first | omega | (simp only [abv]; (repeat' split) <;> omega)) (by first | omega | (simp only [abv]; (repeat' split) <;> omega)) (by first | omega | (simp only [rn1]; omega))) (by first | decide | omega) rfl rfl (Nat.le_of_ble_eq_true rfl) (Nat.le_of_ble_eq_true rfl) (Nat.le_of_ble_eq_true rfl) 0 rfl rfl rfl rfl 139 rfl d_Mod_lets_136 ?_
    exact r_iret rfl (Nat.zero_le _) (Nat.zero_le _) d_Mod_lets_139 (by rw [← hQ]; exact ⟨rfl, rfl⟩)
  by_cases h1_3 : nI k = 3
  · refine r_tableIn 129 d_Mod_lets_1 (by rw [h1_3]; decide) (by rw [h1_3]; decide) (by rw [h1_3]; try rfl) rfl ?_
    obtain rfl : k = 3 := (nI_eq (by omega) (by decide)).mp h1_3
    refine r_aload_n rfl 130 rfl d_Mod_lets_129 ?_
    refine r_iload_n rfl 131 rfl d_Mod_lets_130 ?_
    refine r_iload_n rfl 132 rfl d_Mod_lets_131 ?_
    refine r_callS1 (st2 := [.int (nI (abv 3)), .int (nI p), .ref (a 0)]) (w2 := MW X a (u1 ν 36 s.1) (u2 σ 37 s.2) τ) lk_Mod_above ln_Mod_336 (c_Mod_above X 3 (by omega)) (by first | decide | omega) rfl rfl (Nat.le_of_ble_eq_true rfl) (Nat.le_of_ble_eq_true rfl) (Nat.le_of_ble_eq_true rfl) [] rfl rfl rfl rfl rfl 135 rfl d_Mod_lets_132 ?_
    refine r_iload_n rfl 136 rfl d_Mod_lets_135 ?_
    refine r_callVA1 (st2 := [.int ((le p K v fu (abv 3) x s).1)]) (w2 := MW X a (u1 ν 36 ((le p K v fu (abv 3) x s).2).1) (u2 σ 37 ((le p K v fu (abv 3) x s).2).2) τ) lk_Mod_lets ln_Mod_339 (ihf (abv 3) x s (by first | omega | (simp only [abv]; (repeat' split) <;> omega)) (by first | omega | (simp only [abv]; (repeat' split) <;> omega)) (by first | omega | (simp only [rn1]; omega))) (by first | decide | omega) rfl rfl (Nat.le_of_ble_eq_true rfl) (Nat.le_of_ble_eq_true rfl) (Nat.le_of_ble_eq_true rfl) 0 rfl rfl rfl rfl 139 rfl d_Mod_lets_136 ?_
    exact r_iret rfl (Nat.zero_le _) (Nat.zero_le _) d_Mod_lets_139 (by rw [← hQ]; exact ⟨rfl, rfl⟩)
  by_cases h1_4 : nI k = 4
  · refine r_tableIn 61 d_Mod_lets_1 (by rw [h1_4]; decide) (by rw [h1_4]; decide) (by rw [h1_4]; try rfl) rfl ?_
    obtain rfl : k = 4 := (nI_eq (by omega) (by decide)).mp h1_4
    refine r_aload_n rfl 62 rfl d_Mod_lets_61 ?_
    refine r_bipush (nI 51) rfl 64 rfl d_Mod_lets_62 ?_
    refine r_callVA1 (st2 := []) (w2 := MW X a (u1 ν 36 (rnT s 51).1) (u2 σ 37 (rnT s 51).2) τ) lk_Mod_ran ln_Mod_329 (c_Mod_ran X a ν σ τ s (by first | omega | (simp only [rn1]; omega)) 51) (by first | decide | omega) rfl rfl (Nat.le_of_ble_eq_true rfl) (Nat.le_of_ble_eq_true rfl) (Nat.le_of_ble_eq_true rfl) 0 rfl rfl rfl rfl 67 rfl d_Mod_lets_64 ?_
    refine r_aload_n rfl 68 rfl d_Mod_lets_67 ?_
    refine r_iload_n rfl 69 rfl d_Mod_lets_68 ?_
    refine r_iconst (nI 1) rfl 70 rfl d_Mod_lets_69 ?_
    refine r_iload_n rfl 71 rfl d_Mod_lets_70 ?_
    refine r_iconst (nI 1) rfl 72 rfl d_Mod_lets_71 ?_
    refine r_iadd 73 rfl d_Mod_lets_72 ?_
    refine r_callVA1 (st2 := [.int ((le p K v fu 1 (x + (nI 1)) (rnT s 51)).1)]) (w2 := MW X a (u1 ν 36 ((le p K v fu 1 (x + (nI 1)) (rnT s 51)).2).1) (u2 σ 37 ((le p K v fu 1 (x + (nI 1)) (rnT s 51)).2).2) τ) lk_Mod_lets ln_Mod_339 (ihf 1 (x + (nI 1)) (rnT s 51) (by first | omega | (simp only [abv]; (repeat' split) <;> omega)) (by first | omega | (simp only [abv]; (repeat' split) <;> omega)) (by first | omega | (simp only [rn1]; omega))) (by first | decide | omega) rfl rfl (Nat.le_of_ble_eq_true rfl) (Nat.le_of_ble_eq_true rfl) (Nat.le_of_ble_eq_true rfl) 0 rfl rfl rfl rfl 76 rfl d_Mod_lets_73 ?_
    exact r_iret rfl (Nat.zero_le _) (Nat.zero_le _) d_Mod_lets_76 (by rw [← hQ]; exact ⟨rfl, rfl⟩)
  by_cases h1_5 : nI k = 5
  · refine r_tableIn 129 d_Mod_lets_1 (by rw [h1_5]; decide) (by rw [h1_5]; decide) (by rw [h1_5]; try rfl) rfl ?_
    obtain rfl : k = 5 := (nI_eq (by omega) (by decide)).mp h1_5
    refine r_aload_n rfl 130 rfl d_Mod_lets_129 ?_
    refine r_iload_n rfl 131 rfl d_Mod_lets_130 ?_
    refine r_iload_n rfl 132 rfl d_Mod_lets_131 ?_
    refine r_callS1 (st2 := [.int (nI (abv 5)), .int (nI p), .ref (a 0)]) (w2 := MW X a (u1 ν 36 s.1) (u2 σ 37 s.2) τ) lk_Mod_above ln_Mod_336 (c_Mod_above X 5 (by omega)) (by first | decide | omega) rfl rfl (Nat.le_of_ble_eq_true rfl) (Nat.le_of_ble_eq_true rfl) (Nat.le_of_ble_eq_true rfl) [] rfl rfl rfl rfl rfl 135 rfl d_Mod_lets_132 ?_
    refine r_iload_n rfl 136 rfl d_Mod_lets_135 ?_
    refine r_callVA1 (st2 := [.int ((le p K v fu (abv 5) x s).1)]) (w2 := MW X a (u1 ν 36 ((le p K v fu (abv 5) x s).2).1) (u2 σ 37 ((le p K v fu (abv 5) x s).2).2) τ) lk_Mod_lets ln_Mod_339 (ihf (abv 5) x s (by first | omega | (simp only [abv]; (repeat' split) <;> omega)) (by first | omega | (simp only [abv]; (repeat' split) <;> omega)) (by first | omega | (simp only [rn1]; omega))) (by first | decide | omega) rfl rfl (Nat.le_of_ble_eq_true rfl) (Nat.le_of_ble_eq_true rfl) (Nat.le_of_ble_eq_true rfl) 0 rfl rfl rfl rfl 139 rfl d_Mod_lets_136 ?_
    exact r_iret rfl (Nat.zero_le _) (Nat.zero_le _) d_Mod_lets_139 (by rw [← hQ]; exact ⟨rfl, rfl⟩)
  by_cases h1_6 : nI k = 6
  · refine r_tableIn 77 d_Mod_lets_1 (by rw [h1_6]; decide) (by rw [h1_6]; decide) (by rw [h1_6]; try rfl) rfl ?_
    obtain rfl : k = 6 := (nI_eq (by omega) (by decide)).mp h1_6
    refine r_aload_n rfl 78 rfl d_Mod_lets_77 ?_
    refine r_bipush (nI 70) rfl 80 rfl d_Mod_lets_78 ?_
    refine r_callVA1 (st2 := []) (w2 := MW X a (u1 ν 36 (rnT s 70).1) (u2 σ 37 (rnT s 70).2) τ) lk_Mod_ran ln_Mod_329 (c_Mod_ran X a ν σ τ s (by first | omega | (simp only [rn1]; omega)) 70) (by first | decide | omega) rfl rfl (Nat.le_of_ble_eq_true rfl) (Nat.le_of_ble_eq_true rfl) (Nat.le_of_ble_eq_true rfl) 0 rfl rfl rfl rfl 83 rfl d_Mod_lets_80 ?_
    refine r_aload_n rfl 84 rfl d_Mod_lets_83 ?_
    refine r_iload_n rfl 85 rfl d_Mod_lets_84 ?_
    refine r_iconst (nI 3) rfl 86 rfl d_Mod_lets_85 ?_
    refine r_iload_n rfl 87 rfl d_Mod_lets_86 ?_
    refine r_callVA1 (st2 := [.int ((le p K v fu 3 x (rnT s 70)).1)]) (w2 := MW X a (u1 ν 36 ((le p K v fu 3 x (rnT s 70)).2).1) (u2 σ 37 ((le p K v fu 3 x (rnT s 70)).2).2) τ) lk_Mod_lets ln_Mod_339 (ihf 3 x (rnT s 70) (by first | omega | (simp only [abv]; (repeat' split) <;> omega)) (by first | omega | (simp only [abv]; (repeat' split) <;> omega)) (by first | omega | (simp only [rn1]; omega))) (by first | decide | omega) rfl rfl (Nat.le_of_ble_eq_true rfl) (Nat.le_of_ble_eq_true rfl) (Nat.le_of_ble_eq_true rfl) 0 rfl rfl rfl rfl 90 rfl d_Mod_lets_87 ?_
    refine r_istore (ls2 := [some (.ref (a 0)), some (.int (nI p)), some (.int (nI 6)), some (.int x), some (.int ((le p K v fu 3 x (rnT s 70)).1))]) 92 rfl d_Mod_lets_90 (by decide) rfl rfl ?_
    refine r_iload rfl 94 rfl d_Mod_lets_92 ?_
    refine r_aload_n rfl 95 rfl d_Mod_lets_94 ?_
    refine r_iload_n rfl 96 rfl d_Mod_lets_95 ?_
    refine r_iconst (nI 3) rfl 97 rfl d_Mod_lets_96 ?_
    refine r_iconst (nI 2) rfl 98 rfl d_Mod_lets_97 ?_
    refine r_callVA1 (st2 := [.int ((gr p v 7 3 (nI 2) ((le p K v fu 3 x (rnT s 70)).2)).1), .int ((le p K v fu 3 x (rnT s 70)).1)]) (w2 := MW X a (u1 ν 36 ((gr p v 7 3 (nI 2) ((le p K v fu 3 x (rnT s 70)).2)).2).1) (u2 σ 37 ((gr p v 7 3 (nI 2) ((le p K v fu 3 x (rnT s 70)).2)).2).2) τ) lk_Mod_grips ln_Mod_332 (c_Mod_grips X a ν σ τ p v hkp hv 7 3 (nI 2) ((le p K v fu 3 x (rnT s 70)).2) (by omega) (by omega) (by first | (simp only [rn1]; omega) | (have := le_cnt p K v fu 3 x (rnT s 70); simp only [rn1] at this; omega))) (by first | decide | omega) rfl rfl (Nat.le_of_ble_eq_true rfl) (Nat.le_of_ble_eq_true rfl) (Nat.le_of_ble_eq_true rfl) 0 rfl rfl rfl rfl 101 rfl d_Mod_lets_98 ?_
    refine r_iadd 102 rfl d_Mod_lets_101 ?_
    exact r_iret rfl (Nat.zero_le _) (Nat.zero_le _) d_Mod_lets_102 (by rw [← hQ]; exact ⟨rfl, rfl⟩)
  have t1_0 : ¬ (nI k).toInt = 0 := lv_neT h1_0 (by decide)
  have t1_1 : ¬ (nI k).toInt = 1 := lv_neT h1_1 (by decide)
  have t1_2 : ¬ (nI k).toInt = 2 := lv_neT h1_2 (by decide)
  have t1_3 : ¬ (nI k).toInt = 3 := lv_neT h1_3 (by decide)
  have t1_4 : ¬ (nI k).toInt = 4 := lv_neT h1_4 (by decide)
  have t1_5 : ¬ (nI k).toInt = 5 := lv_neT h1_5 (by decide)
  have t1_6 : ¬ (nI k).toInt = 6 := lv_neT h1_6 (by decide)
  refine r_tableOut 129 d_Mod_lets_1 (by omega) rfl ?_
  have z0 : ¬ k = 0 := fun z => h1_0 (by rw [z]; rfl)
  have z1 : ¬ k = 1 := fun z => h1_1 (by rw [z]; rfl)
  have z4 : ¬ k = 4 := fun z => h1_4 (by rw [z]; rfl)
  have z6 : ¬ k = 6 := fun z => h1_6 (by rw [z]; rfl)
  refine r_aload_n rfl 130 rfl d_Mod_lets_129 ?_
  refine r_iload_n rfl 131 rfl d_Mod_lets_130 ?_
  refine r_iload_n rfl 132 rfl d_Mod_lets_131 ?_
  refine r_callS1 (st2 := [.int (nI (abv k)), .int (nI p), .ref (a 0)]) (w2 := MW X a (u1 ν 36 s.1) (u2 σ 37 s.2) τ) lk_Mod_above ln_Mod_336 (c_Mod_above X k (by omega)) (by first | decide | omega) rfl rfl (Nat.le_of_ble_eq_true rfl) (Nat.le_of_ble_eq_true rfl) (Nat.le_of_ble_eq_true rfl) [] rfl rfl rfl rfl rfl 135 rfl d_Mod_lets_132 ?_
  refine r_iload_n rfl 136 rfl d_Mod_lets_135 ?_
  refine r_callVA1 (st2 := [.int ((le p K v fu (abv k) x s).1)]) (w2 := MW X a (u1 ν 36 ((le p K v fu (abv k) x s).2).1) (u2 σ 37 ((le p K v fu (abv k) x s).2).2) τ) lk_Mod_lets ln_Mod_339 (ihf (abv k) x s (by first | omega | (simp only [abv]; (repeat' split) <;> omega)) (by first | omega | (simp only [abv]; (repeat' split) <;> omega)) (by first | omega | (simp only [rn1]; omega))) (by first | decide | omega) rfl rfl (Nat.le_of_ble_eq_true rfl) (Nat.le_of_ble_eq_true rfl) (Nat.le_of_ble_eq_true rfl) 0 rfl rfl rfl rfl 139 rfl d_Mod_lets_136 ?_
  exact r_iret rfl (Nat.zero_le _) (Nat.zero_le _) d_Mod_lets_139 (by rw [← hQ]; rw [le, if_neg z0, if_neg z1, if_neg z4, if_neg z6]; exact ⟨rfl, rfl⟩)
theorem c_Mod_tells (X : Xn) (a ν : Nat → Nat) (σ : Nat → Nat → Int32) (τ : Nat → Int64) (p : Nat) (v : Int32) (hkp : p < 6) (hv : σ 2 p = v) (K : Nat) (hK : σ 1 p = nI K) (hK6 : K ≤ 6) : ∀ (fu : Nat) (k : Nat) (x : Int32) (s : Trc), (k ≤ 6) → (k < fu) → (s.1 + 256 * fu < 100000) → Does X (20 + fu) M_Mod_tells [.ref (a 0), .int (nI p), .int (nI k), .int x] (MW X a (u1 ν 36 s.1) (u2 σ 37 s.2) τ) 0 0 (fun (vv : Option Value) (ww : va_W) => vv = some (.int (te p K v fu k x s).1) ∧ ww = MW X a (u1 ν 36 ((te p K v fu k x s).2).1) (u2 σ 37 ((te p K v fu k x s).2).2) τ) := by
  intro fu
  induction fu with
  | zero => intro k x s hk hf hs; exact absurd hf (Nat.not_lt_zero _)
  | succ fu ihf =>
  intro k x s hk hf hs
  generalize hQ : (fun (vv : Option Value) (ww : va_W) => vv = some (.int (te p K v (fu + 1) k x s).1) ∧ ww = MW X a (u1 ν 36 ((te p K v (fu + 1) k x s).2).1) (u2 σ 37 ((te p K v (fu + 1) k x s).2).2) τ) = Q
  refine Does.go rfl (Nat.le_of_ble_eq_true rfl) [some (.ref (a 0)), some (.int (nI p)), some (.int (nI k)), some (.int x), none] 1 rfl ?_
  refine r_iload_n rfl 1 rfl d_Mod_tells_0 ?_
  by_cases h1_0 : nI k = 0
  · refine r_lookup 83 d_Mod_tells_1 (by decide) (by rw [h1_0]; try rfl) rfl ?_
    obtain rfl : k = 0 := (nI_eq (by omega) (by decide)).mp h1_0
    refine r_aload_n rfl 84 rfl d_Mod_tells_83 ?_
    refine r_bipush (nI 12) rfl 86 rfl d_Mod_tells_84 ?_
    refine r_callVA1 (st2 := []) (w2 := MW X a (u1 ν 36 (rnT s 12).1) (u2 σ 37 (rnT s 12).2) τ) lk_Mod_ran ln_Mod_329 (c_Mod_ran X a ν σ τ s (by first | omega | (simp only [rn1]; omega)) 12) (by first | decide | omega) rfl rfl (Nat.le_of_ble_eq_true rfl) (Nat.le_of_ble_eq_true rfl) (Nat.le_of_ble_eq_true rfl) 0 rfl rfl rfl rfl 89 rfl d_Mod_tells_86 ?_
    refine r_aload_n rfl 90 rfl d_Mod_tells_89 ?_
    refine r_iload_n rfl 91 rfl d_Mod_tells_90 ?_
    refine r_aload_n rfl 92 rfl d_Mod_tells_91 ?_
    refine r_getf (v := .ref (a 1)) gf_Mod_9 0 rfl rfl 95 rfl d_Mod_tells_92 ?_
    refine r_iload_n rfl 96 rfl d_Mod_tells_95 ?_
    refine r_iald 1 rfl p rfl (by omega) (by omega) 97 rfl d_Mod_tells_96 ?_
    refine r_topi (nI K) hK ?_
    refine r_iload_n rfl 98 rfl d_Mod_tells_97 ?_
    refine r_callVA1 (st2 := [.int ((le p K v 7 K x (rnT s 12)).1)]) (w2 := MW X a (u1 ν 36 ((le p K v 7 K x (rnT s 12)).2).1) (u2 σ 37 ((le p K v 7 K x (rnT s 12)).2).2) τ) lk_Mod_lets ln_Mod_339 (c_Mod_lets X a ν σ τ p v hkp hv K hK hK6 7 K x (rnT s 12) (by omega) (by omega) (by first | (simp only [rn1]; omega) | (have := te_cnt p K v fu 0 x (rnT s 40); simp only [rn1] at this; omega))) (by first | decide | omega) rfl rfl (Nat.le_of_ble_eq_true rfl) (Nat.le_of_ble_eq_true rfl) (Nat.le_of_ble_eq_true rfl) 0 rfl rfl rfl rfl 101 rfl d_Mod_tells_98 ?_
    refine r_iconst (nI 2) rfl 102 rfl d_Mod_tells_101 ?_
    refine r_imul 103 rfl d_Mod_tells_102 ?_
    exact r_iret rfl (Nat.zero_le _) (Nat.zero_le _) d_Mod_tells_103 (by rw [← hQ]; exact ⟨rfl, rfl⟩)
  by_cases h1_3 : nI k = 3
  · refine r_lookup 36 d_Mod_tells_1 (by decide) (by rw [h1_3]; try rfl) rfl ?_
    obtain rfl : k = 3 := (nI_eq (by omega) (by decide)).mp h1_3
    refine r_aload_n rfl 37 rfl d_Mod_tells_36 ?_
    refine r_bipush (nI 40) rfl 39 rfl d_Mod_tells_37 ?_
    refine r_callVA1 (st2 := []) (w2 := MW X a (u1 ν 36 (rnT s 40).1) (u2 σ 37 (rnT s 40).2) τ) lk_Mod_ran ln_Mod_329 (c_Mod_ran X a ν σ τ s (by first | omega | (simp only [rn1]; omega)) 40) (by first | decide | omega) rfl rfl (Nat.le_of_ble_eq_true rfl) (Nat.le_of_ble_eq_true rfl) (Nat.le_of_ble_eq_true rfl) 0 rfl rfl rfl rfl 42 rfl d_Mod_tells_39 ?_
    refine r_aload_n rfl 43 rfl d_Mod_tells_42 ?_
    refine r_iload_n rfl 44 rfl d_Mod_tells_43 ?_
    refine r_iconst (nI 0) rfl 45 rfl d_Mod_tells_44 ?_
    refine r_iload_n rfl 46 rfl d_Mod_tells_45 ?_
    refine r_callVA1 (st2 := [.int ((te p K v fu 0 x (rnT s 40)).1)]) (w2 := MW X a (u1 ν 36 ((te p K v fu 0 x (rnT s 40)).2).1) (u2 σ 37 ((te p K v fu 0 x (rnT s 40)).2).2) τ) lk_Mod_tells ln_Mod_342 (ihf 0 x (rnT s 40) (by first | omega | (simp only [abv]; (repeat' split) <;> omega)) (by first | omega | (simp only [abv]; (repeat' split) <;> omega)) (by first | omega | (simp only [rn1]; omega))) (by first | decide | omega) rfl rfl (Nat.le_of_ble_eq_true rfl) (Nat.le_of_ble_eq_true rfl) (Nat.le_of_ble_eq_true rfl) 0 rfl rfl rfl rfl 49 rfl d_Mod_tells_46 ?_
    refine r_istore (ls2 := [some (.ref (a 0)), some (.int (nI p)), some (.int (nI 3)), some (.int x), some (.int ((te p K v fu 0 x (rnT s 40)).1))]) 51 rfl d_Mod_tells_49 (by decide) rfl rfl ?_
    refine r_iload rfl 53 rfl d_Mod_tells_51 ?_
    refine r_aload_n rfl 54 rfl d_Mod_tells_53 ?_
    refine r_iload_n rfl 55 rfl d_Mod_tells_54 ?_
    refine r_aload_n rfl 56 rfl d_Mod_tells_55 ?_
    refine r_getf (v := .ref (a 1)) gf_Mod_9 0 rfl rfl 59 rfl d_Mod_tells_56 ?_
    refine r_iload_n rfl 60 rfl d_Mod_tells_59 ?_
    refine r_iald 1 rfl p rfl (by omega) (by omega) 61 rfl d_Mod_tells_60 ?_
    refine r_topi (nI K) hK ?_
    refine r_iconst (nI 1) rfl 62 rfl d_Mod_tells_61 ?_
    refine r_callVA1 (st2 := [.int ((le p K v 7 K (nI 1) ((te p K v fu 0 x (rnT s 40)).2)).1), .int ((te p K v fu 0 x (rnT s 40)).1)]) (w2 := MW X a (u1 ν 36 ((le p K v 7 K (nI 1) ((te p K v fu 0 x (rnT s 40)).2)).2).1) (u2 σ 37 ((le p K v 7 K (nI 1) ((te p K v fu 0 x (rnT s 40)).2)).2).2) τ) lk_Mod_lets ln_Mod_339 (c_Mod_lets X a ν σ τ p v hkp hv K hK hK6 7 K (nI 1) ((te p K v fu 0 x (rnT s 40)).2) (by omega) (by omega) (by first | (simp only [rn1]; omega) | (have := te_cnt p K v fu 0 x (rnT s 40); simp only [rn1] at this; omega))) (by first | decide | omega) rfl rfl (Nat.le_of_ble_eq_true rfl) (Nat.le_of_ble_eq_true rfl) (Nat.le_of_ble_eq_true rfl) 0 rfl rfl rfl rfl 65 rfl d_Mod_tells_62 ?_
    refine r_iadd 66 rfl d_Mod_tells_65 ?_
    exact r_iret rfl (Nat.zero_le _) (Nat.zero_le _) d_Mod_tells_66 (by rw [← hQ]; exact ⟨rfl, rfl⟩)
  by_cases h1_5 : nI k = 5
  · refine r_lookup 67 d_Mod_tells_1 (by decide) (by rw [h1_5]; try rfl) rfl ?_
    obtain rfl : k = 5 := (nI_eq (by omega) (by decide)).mp h1_5
    refine r_aload_n rfl 68 rfl d_Mod_tells_67 ?_
    refine r_bipush (nI 60) rfl 70 rfl d_Mod_tells_68 ?_
    refine r_callVA1 (st2 := []) (w2 := MW X a (u1 ν 36 (rnT s 60).1) (u2 σ 37 (rnT s 60).2) τ) lk_Mod_ran ln_Mod_329 (c_Mod_ran X a ν σ τ s (by first | omega | (simp only [rn1]; omega)) 60) (by first | decide | omega) rfl rfl (Nat.le_of_ble_eq_true rfl) (Nat.le_of_ble_eq_true rfl) (Nat.le_of_ble_eq_true rfl) 0 rfl rfl rfl rfl 73 rfl d_Mod_tells_70 ?_
    refine r_aload_n rfl 74 rfl d_Mod_tells_73 ?_
    refine r_iload_n rfl 75 rfl d_Mod_tells_74 ?_
    refine r_iconst (nI 2) rfl 76 rfl d_Mod_tells_75 ?_
    refine r_iload_n rfl 77 rfl d_Mod_tells_76 ?_
    refine r_iload_n rfl 78 rfl d_Mod_tells_77 ?_
    refine r_isub 79 rfl d_Mod_tells_78 ?_
    refine r_callVA1 (st2 := [.int ((te p K v fu 2 (x - (nI p)) (rnT s 60)).1)]) (w2 := MW X a (u1 ν 36 ((te p K v fu 2 (x - (nI p)) (rnT s 60)).2).1) (u2 σ 37 ((te p K v fu 2 (x - (nI p)) (rnT s 60)).2).2) τ) lk_Mod_tells ln_Mod_342 (ihf 2 (x - (nI p)) (rnT s 60) (by first | omega | (simp only [abv]; (repeat' split) <;> omega)) (by first | omega | (simp only [abv]; (repeat' split) <;> omega)) (by first | omega | (simp only [rn1]; omega))) (by first | decide | omega) rfl rfl (Nat.le_of_ble_eq_true rfl) (Nat.le_of_ble_eq_true rfl) (Nat.le_of_ble_eq_true rfl) 0 rfl rfl rfl rfl 82 rfl d_Mod_tells_79 ?_
    exact r_iret rfl (Nat.zero_le _) (Nat.zero_le _) d_Mod_tells_82 (by rw [← hQ]; exact ⟨rfl, rfl⟩)
  refine r_lookup (off := 103) 104 d_Mod_tells_1 (by decide) (by rw [lv_osw h1_0 (by decide), lv_osw h1_3 (by decide), lv_osw h1_5 (by decide)]; rfl) rfl ?_
  have z0 : ¬ k = 0 := fun z => h1_0 (by rw [z]; rfl)
  have z3 : ¬ k = 3 := fun z => h1_3 (by rw [z]; rfl)
  have z5 : ¬ k = 5 := fun z => h1_5 (by rw [z]; rfl)
  refine r_aload_n rfl 105 rfl d_Mod_tells_104 ?_
  refine r_iload_n rfl 106 rfl d_Mod_tells_105 ?_
  refine r_iload_n rfl 107 rfl d_Mod_tells_106 ?_
  refine r_callS1 (st2 := [.int (nI (abv k)), .int (nI p), .ref (a 0)]) (w2 := MW X a (u1 ν 36 s.1) (u2 σ 37 s.2) τ) lk_Mod_above ln_Mod_336 (c_Mod_above X k (by omega)) (by first | decide | omega) rfl rfl (Nat.le_of_ble_eq_true rfl) (Nat.le_of_ble_eq_true rfl) (Nat.le_of_ble_eq_true rfl) [] rfl rfl rfl rfl rfl 110 rfl d_Mod_tells_107 ?_
  refine r_iload_n rfl 111 rfl d_Mod_tells_110 ?_
  refine r_callVA1 (st2 := [.int ((te p K v fu (abv k) x s).1)]) (w2 := MW X a (u1 ν 36 ((te p K v fu (abv k) x s).2).1) (u2 σ 37 ((te p K v fu (abv k) x s).2).2) τ) lk_Mod_tells ln_Mod_342 (ihf (abv k) x s (by first | omega | (simp only [abv]; (repeat' split) <;> omega)) (by first | omega | (simp only [abv]; (repeat' split) <;> omega)) (by first | omega | (simp only [rn1]; omega))) (by first | decide | omega) rfl rfl (Nat.le_of_ble_eq_true rfl) (Nat.le_of_ble_eq_true rfl) (Nat.le_of_ble_eq_true rfl) 0 rfl rfl rfl rfl 114 rfl d_Mod_tells_111 ?_
  exact r_iret rfl (Nat.zero_le _) (Nat.zero_le _) d_Mod_tells_114 (by rw [← hQ]; rw [te, if_neg z0, if_neg z3, if_neg z5]; exact ⟨rfl, rfl⟩)
end
section
def M_Mod_act : XM := (⟨"HandshakeBindsModel", "act", "(III)I"⟩, prog_11_method_72_code, 5, (some .int))
theorem d_Mod_act_0 : decode M_Mod_act.2.1 0 = .ok (.aload_n 0, 1) := by decide +kernel
theorem d_Mod_act_1 : decode M_Mod_act.2.1 1 = .ok (.iconst 0, 1) := by decide +kernel
theorem d_Mod_act_2 : decode M_Mod_act.2.1 2 = .ok (.putfield 326, 3) := by decide +kernel
theorem d_Mod_act_5 : decode M_Mod_act.2.1 5 = .ok (.aload_n 0, 1) := by decide +kernel
theorem d_Mod_act_6 : decode M_Mod_act.2.1 6 = .ok (.iload_n 1, 1) := by decide +kernel
theorem d_Mod_act_7 : decode M_Mod_act.2.1 7 = .ok (.invokevirtual 118, 3) := by decide +kernel
theorem d_Mod_act_10 : decode M_Mod_act.2.1 10 = .ok (.ifCond .eq 12, 3) := by decide +kernel
theorem d_Mod_act_22 : decode M_Mod_act.2.1 22 = .ok (.iconst 0, 1) := by decide +kernel
theorem d_Mod_act_23 : decode M_Mod_act.2.1 23 = .ok (.ireturn, 1) := by decide +kernel
theorem d_Mod_act_13 : decode M_Mod_act.2.1 13 = .ok (.iload_n 2, 1) := by decide +kernel
theorem d_Mod_act_14 : decode M_Mod_act.2.1 14 = .ok (.iconst 0, 1) := by decide +kernel
theorem d_Mod_act_15 : decode M_Mod_act.2.1 15 = .ok (.iconst 2, 1) := by decide +kernel
theorem d_Mod_act_16 : decode M_Mod_act.2.1 16 = .ok (.invokestatic 114, 3) := by decide +kernel
theorem d_Mod_act_19 : decode M_Mod_act.2.1 19 = .ok (.ifCond .ne 5, 3) := by decide +kernel
theorem d_Mod_act_24 : decode M_Mod_act.2.1 24 = .ok (.aload_n 0, 1) := by decide +kernel
theorem d_Mod_act_25 : decode M_Mod_act.2.1 25 = .ok (.getfield 9, 3) := by decide +kernel
theorem d_Mod_act_28 : decode M_Mod_act.2.1 28 = .ok (.iload_n 1, 1) := by decide +kernel
theorem d_Mod_act_29 : decode M_Mod_act.2.1 29 = .ok (.iaload, 1) := by decide +kernel
theorem d_Mod_act_30 : decode M_Mod_act.2.1 30 = .ok (.istore 4, 2) := by decide +kernel
theorem d_Mod_act_32 : decode M_Mod_act.2.1 32 = .ok (.iload_n 2, 1) := by decide +kernel
theorem d_Mod_act_33 : decode M_Mod_act.2.1 33 = .ok (.ifCond .ne 14, 3) := by decide +kernel
theorem d_Mod_act_47 : decode M_Mod_act.2.1 47 = .ok (.iload_n 2, 1) := by decide +kernel
theorem d_Mod_act_48 : decode M_Mod_act.2.1 48 = .ok (.iconst 1, 1) := by decide +kernel
theorem d_Mod_act_49 : decode M_Mod_act.2.1 49 = .ok (.if_icmp .ne 14, 3) := by decide +kernel
theorem d_Mod_act_63 : decode M_Mod_act.2.1 63 = .ok (.aload_n 0, 1) := by decide +kernel
theorem d_Mod_act_64 : decode M_Mod_act.2.1 64 = .ok (.iload_n 1, 1) := by decide +kernel
theorem d_Mod_act_65 : decode M_Mod_act.2.1 65 = .ok (.iload 4, 2) := by decide +kernel
theorem d_Mod_act_67 : decode M_Mod_act.2.1 67 = .ok (.iload_n 3, 1) := by decide +kernel
theorem d_Mod_act_68 : decode M_Mod_act.2.1 68 = .ok (.invokevirtual 342, 3) := by decide +kernel
theorem d_Mod_act_71 : decode M_Mod_act.2.1 71 = .ok (.ireturn, 1) := by decide +kernel
theorem d_Mod_act_52 : decode M_Mod_act.2.1 52 = .ok (.aload_n 0, 1) := by decide +kernel
theorem d_Mod_act_53 : decode M_Mod_act.2.1 53 = .ok (.iload_n 1, 1) := by decide +kernel
theorem d_Mod_act_54 : decode M_Mod_act.2.1 54 = .ok (.iload 4, 2) := by decide +kernel
theorem d_Mod_act_56 : decode M_Mod_act.2.1 56 = .ok (.iload_n 3, 1) := by decide +kernel
theorem d_Mod_act_57 : decode M_Mod_act.2.1 57 = .ok (.invokevirtual 339, 3) := by decide +kernel
theorem d_Mod_act_60 : decode M_Mod_act.2.1 60 = .ok (.goto 11, 3) := by decide +kernel
theorem d_Mod_act_36 : decode M_Mod_act.2.1 36 = .ok (.aload_n 0, 1) := by decide +kernel
theorem d_Mod_act_37 : decode M_Mod_act.2.1 37 = .ok (.iload_n 1, 1) := by decide +kernel
theorem d_Mod_act_38 : decode M_Mod_act.2.1 38 = .ok (.iload 4, 2) := by decide +kernel
theorem d_Mod_act_40 : decode M_Mod_act.2.1 40 = .ok (.iload_n 3, 1) := by decide +kernel
theorem d_Mod_act_41 : decode M_Mod_act.2.1 41 = .ok (.invokevirtual 332, 3) := by decide +kernel
theorem d_Mod_act_44 : decode M_Mod_act.2.1 44 = .ok (.goto 27, 3) := by decide +kernel
def M_Mod_trace : XM := (⟨"HandshakeBindsModel", "trace", "(I)I"⟩, prog_11_method_73_code, 2, (some .int))
theorem d_Mod_trace_0 : decode M_Mod_trace.2.1 0 = .ok (.iload_n 1, 1) := by decide +kernel
theorem d_Mod_trace_1 : decode M_Mod_trace.2.1 1 = .ok (.iconst 0, 1) := by decide +kernel
theorem d_Mod_trace_2 : decode M_Mod_trace.2.1 2 = .ok (.bipush 20, 2) := by decide +kernel
theorem d_Mod_trace_4 : decode M_Mod_trace.2.1 4 = .ok (.aload_n 0, 1) := by decide +kernel
theorem d_Mod_trace_5 : decode M_Mod_trace.2.1 5 = .ok (.getfield 326, 3) := by decide +kernel
theorem d_Mod_trace_8 : decode M_Mod_trace.2.1 8 = .ok (.invokestatic 246, 3) := by decide +kernel
theorem d_Mod_trace_11 : decode M_Mod_trace.2.1 11 = .ok (.iconst 1, 1) := by decide +kernel
theorem d_Mod_trace_12 : decode M_Mod_trace.2.1 12 = .ok (.isub, 1) := by decide +kernel
theorem d_Mod_trace_13 : decode M_Mod_trace.2.1 13 = .ok (.invokestatic 114, 3) := by decide +kernel
theorem d_Mod_trace_16 : decode M_Mod_trace.2.1 16 = .ok (.ifCond .eq 12, 3) := by decide +kernel
theorem d_Mod_trace_28 : decode M_Mod_trace.2.1 28 = .ok (.iconst (-1), 1) := by decide +kernel
theorem d_Mod_trace_29 : decode M_Mod_trace.2.1 29 = .ok (.ireturn, 1) := by decide +kernel
theorem d_Mod_trace_19 : decode M_Mod_trace.2.1 19 = .ok (.aload_n 0, 1) := by decide +kernel
theorem d_Mod_trace_20 : decode M_Mod_trace.2.1 20 = .ok (.getfield 82, 3) := by decide +kernel
theorem d_Mod_trace_23 : decode M_Mod_trace.2.1 23 = .ok (.iload_n 1, 1) := by decide +kernel
theorem d_Mod_trace_24 : decode M_Mod_trace.2.1 24 = .ok (.iaload, 1) := by decide +kernel
theorem d_Mod_trace_25 : decode M_Mod_trace.2.1 25 = .ok (.goto 4, 3) := by decide +kernel
def M_Mod_count : XM := (⟨"HandshakeBindsModel", "count", "(I)I"⟩, prog_11_method_75_code, 2, (some .int))
theorem d_Mod_count_0 : decode M_Mod_count.2.1 0 = .ok (.iload_n 1, 1) := by decide +kernel
theorem d_Mod_count_1 : decode M_Mod_count.2.1 1 = .ok (.tableswitch 78 0 6 #[43, 48, 53, 58, 63, 68, 73], 43) := by decide +kernel
theorem d_Mod_count_44 : decode M_Mod_count.2.1 44 = .ok (.aload_n 0, 1) := by decide +kernel
theorem d_Mod_count_45 : decode M_Mod_count.2.1 45 = .ok (.getfield 111, 3) := by decide +kernel
theorem d_Mod_count_48 : decode M_Mod_count.2.1 48 = .ok (.ireturn, 1) := by decide +kernel
theorem d_Mod_count_49 : decode M_Mod_count.2.1 49 = .ok (.aload_n 0, 1) := by decide +kernel
theorem d_Mod_count_50 : decode M_Mod_count.2.1 50 = .ok (.getfield 216, 3) := by decide +kernel
theorem gf_Mod_216 : GF "HandshakeBindsModel" 216 9 13 := ⟨_, _, _, rfl, by decide, i_Mod, inTB 863 (by decide +kernel) rfl⟩
theorem d_Mod_count_53 : decode M_Mod_count.2.1 53 = .ok (.ireturn, 1) := by decide +kernel
theorem d_Mod_count_54 : decode M_Mod_count.2.1 54 = .ok (.aload_n 0, 1) := by decide +kernel
theorem d_Mod_count_55 : decode M_Mod_count.2.1 55 = .ok (.getfield 297, 3) := by decide +kernel
theorem d_Mod_count_58 : decode M_Mod_count.2.1 58 = .ok (.ireturn, 1) := by decide +kernel
theorem d_Mod_count_59 : decode M_Mod_count.2.1 59 = .ok (.aload_n 0, 1) := by decide +kernel
theorem d_Mod_count_60 : decode M_Mod_count.2.1 60 = .ok (.getfield 312, 3) := by decide +kernel
theorem d_Mod_count_63 : decode M_Mod_count.2.1 63 = .ok (.ireturn, 1) := by decide +kernel
theorem d_Mod_count_64 : decode M_Mod_count.2.1 64 = .ok (.aload_n 0, 1) := by decide +kernel
theorem d_Mod_count_65 : decode M_Mod_count.2.1 65 = .ok (.getfield 319, 3) := by decide +kernel
theorem d_Mod_count_68 : decode M_Mod_count.2.1 68 = .ok (.ireturn, 1) := by decide +kernel
theorem d_Mod_count_69 : decode M_Mod_count.2.1 69 = .ok (.aload_n 0, 1) := by decide +kernel
theorem d_Mod_count_70 : decode M_Mod_count.2.1 70 = .ok (.getfield 144, 3) := by decide +kernel
theorem d_Mod_count_73 : decode M_Mod_count.2.1 73 = .ok (.ireturn, 1) := by decide +kernel
theorem d_Mod_count_74 : decode M_Mod_count.2.1 74 = .ok (.aload_n 0, 1) := by decide +kernel
theorem d_Mod_count_75 : decode M_Mod_count.2.1 75 = .ok (.getfield 326, 3) := by decide +kernel
theorem d_Mod_count_78 : decode M_Mod_count.2.1 78 = .ok (.ireturn, 1) := by decide +kernel
theorem d_Mod_count_79 : decode M_Mod_count.2.1 79 = .ok (.bipush (-2), 2) := by decide +kernel
theorem d_Mod_count_81 : decode M_Mod_count.2.1 81 = .ok (.ireturn, 1) := by decide +kernel
def M_Mod_image : XM := (⟨"HandshakeBindsModel", "image", "()I"⟩, prog_11_method_65_code, 1, (some .int))
theorem d_Mod_image_0 : decode M_Mod_image.2.1 0 = .ok (.aload_n 0, 1) := by decide +kernel
theorem d_Mod_image_1 : decode M_Mod_image.2.1 1 = .ok (.iconst 1, 1) := by decide +kernel
theorem d_Mod_image_2 : decode M_Mod_image.2.1 2 = .ok (.putfield 322, 3) := by decide +kernel
theorem pf_Mod_322 : PF "HandshakeBindsModel" 322 9 38 (.boolean) false := ⟨_, _, _, t_Mod, rfl, by decide, i_Mod, t_Mod_ok, n_Mod, inTB 888 (by decide +kernel) rfl, rfl, t_Mod_ok 38 (by decide), fun _ => rfl⟩
theorem d_Mod_image_5 : decode M_Mod_image.2.1 5 = .ok (.aload_n 0, 1) := by decide +kernel
theorem d_Mod_image_6 : decode M_Mod_image.2.1 6 = .ok (.aload_n 0, 1) := by decide +kernel
theorem d_Mod_image_7 : decode M_Mod_image.2.1 7 = .ok (.getfield 85, 3) := by decide +kernel
theorem gf_Mod_85 : GF "HandshakeBindsModel" 85 9 39 := ⟨_, _, _, rfl, by decide, i_Mod, inTB 889 (by decide +kernel) rfl⟩
theorem d_Mod_image_10 : decode M_Mod_image.2.1 10 = .ok (.invokevirtual 254, 3) := by decide +kernel
theorem d_Mod_image_13 : decode M_Mod_image.2.1 13 = .ok (.aload_n 0, 1) := by decide +kernel
theorem d_Mod_image_14 : decode M_Mod_image.2.1 14 = .ok (.getfield 111, 3) := by decide +kernel
theorem d_Mod_image_17 : decode M_Mod_image.2.1 17 = .ok (.ireturn, 1) := by decide +kernel
def M_Mod_undo : XM := (⟨"HandshakeBindsModel", "undo", "()I"⟩, prog_11_method_66_code, 1, (some .int))
theorem d_Mod_undo_0 : decode M_Mod_undo.2.1 0 = .ok (.aload_n 0, 1) := by decide +kernel
theorem d_Mod_undo_1 : decode M_Mod_undo.2.1 1 = .ok (.getfield 322, 3) := by decide +kernel
theorem gf_Mod_322 : GF "HandshakeBindsModel" 322 9 38 := ⟨_, _, _, rfl, by decide, i_Mod, inTB 888 (by decide +kernel) rfl⟩
theorem d_Mod_undo_4 : decode M_Mod_undo.2.1 4 = .ok (.ifCond .ne 6, 3) := by decide +kernel
theorem d_Mod_undo_7 : decode M_Mod_undo.2.1 7 = .ok (.bipush (-3), 2) := by decide +kernel
theorem d_Mod_undo_9 : decode M_Mod_undo.2.1 9 = .ok (.ireturn, 1) := by decide +kernel
theorem d_Mod_undo_10 : decode M_Mod_undo.2.1 10 = .ok (.aload_n 0, 1) := by decide +kernel
theorem d_Mod_undo_11 : decode M_Mod_undo.2.1 11 = .ok (.aload_n 0, 1) := by decide +kernel
theorem d_Mod_undo_12 : decode M_Mod_undo.2.1 12 = .ok (.getfield 85, 3) := by decide +kernel
theorem d_Mod_undo_15 : decode M_Mod_undo.2.1 15 = .ok (.invokevirtual 259, 3) := by decide +kernel
theorem d_Mod_undo_18 : decode M_Mod_undo.2.1 18 = .ok (.aload_n 0, 1) := by decide +kernel
theorem d_Mod_undo_19 : decode M_Mod_undo.2.1 19 = .ok (.getfield 111, 3) := by decide +kernel
theorem d_Mod_undo_22 : decode M_Mod_undo.2.1 22 = .ok (.ireturn, 1) := by decide +kernel
def M_Mod_taken : XM := (⟨"HandshakeBindsModel", "taken", "(II)I"⟩, prog_11_method_74_code, 4, (some .int))
theorem d_Mod_taken_0 : decode M_Mod_taken.2.1 0 = .ok (.iload_n 2, 1) := by decide +kernel
theorem d_Mod_taken_1 : decode M_Mod_taken.2.1 1 = .ok (.iconst 0, 1) := by decide +kernel
theorem d_Mod_taken_2 : decode M_Mod_taken.2.1 2 = .ok (.bipush 6, 2) := by decide +kernel
theorem d_Mod_taken_4 : decode M_Mod_taken.2.1 4 = .ok (.invokestatic 114, 3) := by decide +kernel
theorem d_Mod_taken_7 : decode M_Mod_taken.2.1 7 = .ok (.ifCond .ne 6, 3) := by decide +kernel
theorem d_Mod_taken_13 : decode M_Mod_taken.2.1 13 = .ok (.aload_n 0, 1) := by decide +kernel
theorem d_Mod_taken_14 : decode M_Mod_taken.2.1 14 = .ok (.iload_n 1, 1) := by decide +kernel
theorem d_Mod_taken_15 : decode M_Mod_taken.2.1 15 = .ok (.invokevirtual 118, 3) := by decide +kernel
theorem d_Mod_taken_18 : decode M_Mod_taken.2.1 18 = .ok (.ifCond .ne 6, 3) := by decide +kernel
theorem d_Mod_taken_24 : decode M_Mod_taken.2.1 24 = .ok (.aload_n 0, 1) := by decide +kernel
theorem d_Mod_taken_25 : decode M_Mod_taken.2.1 25 = .ok (.getfield 9, 3) := by decide +kernel
theorem d_Mod_taken_28 : decode M_Mod_taken.2.1 28 = .ok (.iload_n 1, 1) := by decide +kernel
theorem d_Mod_taken_29 : decode M_Mod_taken.2.1 29 = .ok (.iaload, 1) := by decide +kernel
theorem d_Mod_taken_30 : decode M_Mod_taken.2.1 30 = .ok (.istore_n 3, 1) := by decide +kernel
theorem d_Mod_taken_31 : decode M_Mod_taken.2.1 31 = .ok (.iload_n 3, 1) := by decide +kernel
theorem d_Mod_taken_32 : decode M_Mod_taken.2.1 32 = .ok (.iload_n 2, 1) := by decide +kernel
theorem d_Mod_taken_33 : decode M_Mod_taken.2.1 33 = .ok (.if_icmp .eq 15, 3) := by decide +kernel
theorem d_Mod_taken_48 : decode M_Mod_taken.2.1 48 = .ok (.iload_n 3, 1) := by decide +kernel
theorem d_Mod_taken_49 : decode M_Mod_taken.2.1 49 = .ok (.iload_n 2, 1) := by decide +kernel
theorem d_Mod_taken_50 : decode M_Mod_taken.2.1 50 = .ok (.if_icmp .ne 12, 3) := by decide +kernel
theorem d_Mod_taken_62 : decode M_Mod_taken.2.1 62 = .ok (.bipush (-12), 2) := by decide +kernel
theorem d_Mod_taken_64 : decode M_Mod_taken.2.1 64 = .ok (.ireturn, 1) := by decide +kernel
theorem d_Mod_taken_53 : decode M_Mod_taken.2.1 53 = .ok (.aload_n 0, 1) := by decide +kernel
theorem d_Mod_taken_54 : decode M_Mod_taken.2.1 54 = .ok (.getfield 9, 3) := by decide +kernel
theorem d_Mod_taken_57 : decode M_Mod_taken.2.1 57 = .ok (.iload_n 1, 1) := by decide +kernel
theorem d_Mod_taken_58 : decode M_Mod_taken.2.1 58 = .ok (.iaload, 1) := by decide +kernel
theorem d_Mod_taken_59 : decode M_Mod_taken.2.1 59 = .ok (.goto 5, 3) := by decide +kernel
theorem d_Mod_taken_36 : decode M_Mod_taken.2.1 36 = .ok (.iload_n 3, 1) := by decide +kernel
theorem d_Mod_taken_37 : decode M_Mod_taken.2.1 37 = .ok (.ifCond .le 11, 3) := by decide +kernel
theorem d_Mod_taken_40 : decode M_Mod_taken.2.1 40 = .ok (.iload_n 3, 1) := by decide +kernel
theorem d_Mod_taken_41 : decode M_Mod_taken.2.1 41 = .ok (.invokestatic 336, 3) := by decide +kernel
theorem d_Mod_taken_44 : decode M_Mod_taken.2.1 44 = .ok (.istore_n 3, 1) := by decide +kernel
theorem d_Mod_taken_45 : decode M_Mod_taken.2.1 45 = .ok (.goto (-14), 3) := by decide +kernel
theorem d_Mod_taken_21 : decode M_Mod_taken.2.1 21 = .ok (.bipush (-11), 2) := by decide +kernel
theorem d_Mod_taken_23 : decode M_Mod_taken.2.1 23 = .ok (.ireturn, 1) := by decide +kernel
theorem d_Mod_taken_10 : decode M_Mod_taken.2.1 10 = .ok (.bipush (-2), 2) := by decide +kernel
theorem d_Mod_taken_12 : decode M_Mod_taken.2.1 12 = .ok (.ireturn, 1) := by decide +kernel
def M_Mod_of : XM := (⟨"HandshakeBindsModel", "of", "(II)I"⟩, prog_11_method_10_code, 3, (some .int))
theorem d_Mod_of_0 : decode M_Mod_of.2.1 0 = .ok (.aload_n 0, 1) := by decide +kernel
theorem d_Mod_of_1 : decode M_Mod_of.2.1 1 = .ok (.iload_n 1, 1) := by decide +kernel
theorem d_Mod_of_2 : decode M_Mod_of.2.1 2 = .ok (.invokevirtual 118, 3) := by decide +kernel
theorem d_Mod_of_5 : decode M_Mod_of.2.1 5 = .ok (.ifCond .ne 6, 3) := by decide +kernel
theorem d_Mod_of_11 : decode M_Mod_of.2.1 11 = .ok (.iload_n 2, 1) := by decide +kernel
theorem d_Mod_of_12 : decode M_Mod_of.2.1 12 = .ok (.tableswitch 102 0 7 #[48, 55, 62, 69, 75, 82, 88, 96], 48) := by decide +kernel
theorem d_Mod_of_60 : decode M_Mod_of.2.1 60 = .ok (.aload_n 0, 1) := by decide +kernel
theorem d_Mod_of_61 : decode M_Mod_of.2.1 61 = .ok (.getfield 9, 3) := by decide +kernel
theorem d_Mod_of_64 : decode M_Mod_of.2.1 64 = .ok (.iload_n 1, 1) := by decide +kernel
theorem d_Mod_of_65 : decode M_Mod_of.2.1 65 = .ok (.iaload, 1) := by decide +kernel
theorem d_Mod_of_66 : decode M_Mod_of.2.1 66 = .ok (.ireturn, 1) := by decide +kernel
theorem d_Mod_of_67 : decode M_Mod_of.2.1 67 = .ok (.aload_n 0, 1) := by decide +kernel
theorem d_Mod_of_68 : decode M_Mod_of.2.1 68 = .ok (.getfield 15, 3) := by decide +kernel
theorem d_Mod_of_71 : decode M_Mod_of.2.1 71 = .ok (.iload_n 1, 1) := by decide +kernel
theorem d_Mod_of_72 : decode M_Mod_of.2.1 72 = .ok (.iaload, 1) := by decide +kernel
theorem d_Mod_of_73 : decode M_Mod_of.2.1 73 = .ok (.ireturn, 1) := by decide +kernel
theorem d_Mod_of_74 : decode M_Mod_of.2.1 74 = .ok (.aload_n 0, 1) := by decide +kernel
theorem d_Mod_of_75 : decode M_Mod_of.2.1 75 = .ok (.getfield 18, 3) := by decide +kernel
theorem d_Mod_of_78 : decode M_Mod_of.2.1 78 = .ok (.iload_n 1, 1) := by decide +kernel
theorem d_Mod_of_79 : decode M_Mod_of.2.1 79 = .ok (.iaload, 1) := by decide +kernel
theorem d_Mod_of_80 : decode M_Mod_of.2.1 80 = .ok (.ireturn, 1) := by decide +kernel
theorem d_Mod_of_81 : decode M_Mod_of.2.1 81 = .ok (.aload_n 0, 1) := by decide +kernel
theorem d_Mod_of_82 : decode M_Mod_of.2.1 82 = .ok (.iload_n 1, 1) := by decide +kernel
theorem d_Mod_of_83 : decode M_Mod_of.2.1 83 = .ok (.invokevirtual 126, 3) := by decide +kernel
theorem d_Mod_of_86 : decode M_Mod_of.2.1 86 = .ok (.ireturn, 1) := by decide +kernel
theorem d_Mod_of_87 : decode M_Mod_of.2.1 87 = .ok (.aload_n 0, 1) := by decide +kernel
theorem d_Mod_of_88 : decode M_Mod_of.2.1 88 = .ok (.iload_n 1, 1) := by decide +kernel
theorem d_Mod_of_89 : decode M_Mod_of.2.1 89 = .ok (.iconst 0, 1) := by decide +kernel
theorem d_Mod_of_90 : decode M_Mod_of.2.1 90 = .ok (.invokevirtual 122, 3) := by decide +kernel
theorem d_Mod_of_93 : decode M_Mod_of.2.1 93 = .ok (.ireturn, 1) := by decide +kernel
theorem d_Mod_of_94 : decode M_Mod_of.2.1 94 = .ok (.aload_n 0, 1) := by decide +kernel
theorem d_Mod_of_95 : decode M_Mod_of.2.1 95 = .ok (.iload_n 1, 1) := by decide +kernel
theorem d_Mod_of_96 : decode M_Mod_of.2.1 96 = .ok (.invokevirtual 131, 3) := by decide +kernel
theorem d_Mod_of_99 : decode M_Mod_of.2.1 99 = .ok (.ireturn, 1) := by decide +kernel
theorem d_Mod_of_100 : decode M_Mod_of.2.1 100 = .ok (.aload_n 0, 1) := by decide +kernel
theorem d_Mod_of_101 : decode M_Mod_of.2.1 101 = .ok (.iconst 1, 1) := by decide +kernel
theorem d_Mod_of_102 : decode M_Mod_of.2.1 102 = .ok (.iload_n 1, 1) := by decide +kernel
theorem d_Mod_of_103 : decode M_Mod_of.2.1 103 = .ok (.ishl, 1) := by decide +kernel
theorem d_Mod_of_104 : decode M_Mod_of.2.1 104 = .ok (.invokevirtual 134, 3) := by decide +kernel
theorem d_Mod_of_107 : decode M_Mod_of.2.1 107 = .ok (.ireturn, 1) := by decide +kernel
theorem d_Mod_of_108 : decode M_Mod_of.2.1 108 = .ok (.aload_n 0, 1) := by decide +kernel
theorem d_Mod_of_109 : decode M_Mod_of.2.1 109 = .ok (.iload_n 1, 1) := by decide +kernel
theorem d_Mod_of_110 : decode M_Mod_of.2.1 110 = .ok (.invokevirtual 137, 3) := by decide +kernel
theorem ln_Mod_137 : Cond.methodLink "HandshakeBindsModel" 137 M_Mod_gift.1 ∈ TB := inTB 1022 (by decide +kernel) rfl
theorem lk_Mod_gift : LVt M_Mod_gift 1 := ⟨⟨inTB 72 (by decide +kernel) rfl, inTB 1025 (by decide +kernel) rfl, ⟨by decide, by decide, by decide +kernel⟩, by decide⟩, inTB 1024 (by decide +kernel) rfl, inTB 25 (by decide +kernel) rfl⟩
theorem d_Mod_of_113 : decode M_Mod_of.2.1 113 = .ok (.ireturn, 1) := by decide +kernel
theorem d_Mod_of_114 : decode M_Mod_of.2.1 114 = .ok (.ldc 130, 2) := by decide +kernel
theorem d_Mod_of_116 : decode M_Mod_of.2.1 116 = .ok (.ireturn, 1) := by decide +kernel
theorem d_Mod_of_8 : decode M_Mod_of.2.1 8 = .ok (.ldc 130, 2) := by decide +kernel
theorem d_Mod_of_10 : decode M_Mod_of.2.1 10 = .ok (.ireturn, 1) := by decide +kernel
theorem c_Mod_act (X : Xn) (a ν : Nat → Nat) (σ : Nat → Nat → Int32) (τ : Nat → Int64) (hn6 : ν 0 ≤ 6) (hkd : ∀ i, i < 6 → ∃ K : Nat, K ≤ 6 ∧ σ 1 i = nI K) (p k x : Int32) : Does X 40 M_Mod_act [.ref (a 0), .int p, .int k, .int x] (MW X a ν σ τ) 0 0 (fun (vv : Option Value) (ww : va_W) => vv = some (.int (R_act (ν 0) (σ 1) (σ 2) (σ 37) p k x).1) ∧ ww = MW X a (u1 ν 36 (R_act (ν 0) (σ 1) (σ 2) (σ 37) p k x).2.1) (u2 σ 37 (R_act (ν 0) (σ 1) (σ 2) (σ 37) p k x).2.2) τ) := by
  generalize hQ : (fun (vv : Option Value) (ww : va_W) => vv = some (.int (R_act (ν 0) (σ 1) (σ 2) (σ 37) p k x).1) ∧ ww = MW X a (u1 ν 36 (R_act (ν 0) (σ 1) (σ 2) (σ 37) p k x).2.1) (u2 σ 37 (R_act (ν 0) (σ 1) (σ 2) (σ 37) p k x).2.2) τ) = Q
  refine Does.go rfl (Nat.le_of_ble_eq_true rfl) [some (.ref (a 0)), some (.int p), some (.int k), some (.int x), none] 1 rfl ?_
  refine r_aload_n rfl 1 rfl d_Mod_act_0 ?_
  refine r_iconst (nI 0) rfl 2 rfl d_Mod_act_1 ?_
  refine r_putf (w2 := MW X a (u1 ν 36 0) σ τ) pf_Mod_326 0 rfl (rfl) rfl (Nat.le_of_ble_eq_true rfl) rfl 5 rfl d_Mod_act_2 ?_
  refine Runs.cast (w' := MW X a (u1 ν 36 ((0, σ 37) : Trc).1) (u2 σ 37 ((0, σ 37) : Trc).2) τ) ?_ rfl rfl (by rw [u2_self])
  refine r_aload_n rfl 6 rfl d_Mod_act_5 ?_
  refine r_iload_n rfl 7 rfl d_Mod_act_6 ?_
  refine r_callVA1 (st2 := [.int (bI (isB (ν 0) p))]) (w2 := MW X a (u1 ν 36 ((0, σ 37) : Trc).1) (u2 σ 37 ((0, σ 37) : Trc).2) τ) lk_Mod_isOne ln_Mod_118 (c_Mod_isOne X a (u1 ν 36 ((0, σ 37) : Trc).1) (u2 σ 37 ((0, σ 37) : Trc).2) τ p) (by first | decide | omega) rfl rfl (Nat.le_of_ble_eq_true rfl) (Nat.le_of_ble_eq_true rfl) (Nat.le_of_ble_eq_true rfl) 0 rfl rfl rfl rfl 10 rfl d_Mod_act_7 ?_
  refine r_if_eqB 13 22 rfl rfl d_Mod_act_10 (fun h10 => ?_) (fun h10 => ?_)
  · refine r_iconst (nI 0) rfl 23 rfl d_Mod_act_22 ?_
    exact r_iret rfl (Nat.zero_le _) (Nat.zero_le _) d_Mod_act_23 (by rw [← hQ]; rw [show R_act (ν 0) (σ 1) (σ 2) (σ 37) p k x = (nI 0, ((0, σ 37) : Trc)) from by simp [R_act, h10]]; exact ⟨rfl, rfl⟩)
  · obtain ⟨pN, hpN, rfl⟩ := isB_t hn6 h10
    have epN : cn (nI pN) = pN := cn_nI (by omega)
    have mpN : ¬ nI pN = -1 := m1n (by omega)
    refine r_iload_n rfl 14 rfl d_Mod_act_13 ?_
    refine r_iconst (nI 0) rfl 15 rfl d_Mod_act_14 ?_
    refine r_iconst (nI 2) rfl 16 rfl d_Mod_act_15 ?_
    refine r_callS1 (st2 := [.int (bI (inR k (nI 0) (nI 2)))]) (w2 := MW X a (u1 ν 36 ((0, σ 37) : Trc).1) (u2 σ 37 ((0, σ 37) : Trc).2) τ) lk_Mod_within ln_Mod_114 (c_Mod_within X k (nI 0) (nI 2)) (by first | decide | omega) rfl rfl (Nat.le_of_ble_eq_true rfl) (Nat.le_of_ble_eq_true rfl) (Nat.le_of_ble_eq_true rfl) [] rfl rfl rfl rfl rfl 19 rfl d_Mod_act_16 ?_
    refine r_if_neB 22 24 rfl rfl d_Mod_act_19 (fun h19 => ?_) (fun h19 => ?_)
    · obtain ⟨kN, hkN, rfl⟩ := inR_t (by decide) h19
      have ekN : cn (nI kN) = kN := cn_nI (by omega)
      have mkN : ¬ nI kN = -1 := m1n (by omega)
      refine r_aload_n rfl 25 rfl d_Mod_act_24 ?_
      refine r_getf (v := .ref (a 1)) gf_Mod_9 0 rfl rfl 28 rfl d_Mod_act_25 ?_
      refine r_iload_n rfl 29 rfl d_Mod_act_28 ?_
      refine r_iald 1 rfl pN rfl (by omega) (by omega) 30 rfl d_Mod_act_29 ?_
      obtain ⟨K, hK6, hK⟩ := hkd pN (by omega)
      refine r_topi (nI K) hK ?_
      refine r_istore (ls2 := [some (.ref (a 0)), some (.int (nI pN)), some (.int (nI kN)), some (.int x), some (.int (nI K))]) 32 rfl d_Mod_act_30 (by decide) rfl rfl ?_
      refine r_iload_n rfl 33 rfl d_Mod_act_32 ?_
      refine r_if_neN kN (by omega) 36 47 rfl rfl d_Mod_act_33 (fun h33 => ?_) (fun h33 => ?_)
      · refine r_iload_n rfl 48 rfl d_Mod_act_47 ?_
        refine r_iconst (nI 1) rfl 49 rfl d_Mod_act_48 ?_
        refine r_icmp_neN kN 1 (by omega) (by omega) 52 63 rfl rfl d_Mod_act_49 (fun h49 => ?_) (fun h49 => ?_)
        · refine r_aload_n rfl 64 rfl d_Mod_act_63 ?_
          refine r_iload_n rfl 65 rfl d_Mod_act_64 ?_
          refine r_iload rfl 67 rfl d_Mod_act_65 ?_
          refine r_iload_n rfl 68 rfl d_Mod_act_67 ?_
          refine r_callVA1 (st2 := [.int ((te pN K (σ 2 pN) 7 K x ((0, σ 37) : Trc)).1)]) (w2 := MW X a (u1 ν 36 ((te pN K (σ 2 pN) 7 K x ((0, σ 37) : Trc)).2).1) (u2 σ 37 ((te pN K (σ 2 pN) 7 K x ((0, σ 37) : Trc)).2).2) τ) lk_Mod_tells ln_Mod_342 (c_Mod_tells X a ν σ τ pN (σ 2 pN) (by omega) rfl K hK hK6 7 K x ((0, σ 37) : Trc) hK6 (by omega) (by show (0 : Nat) + _ < 100000; omega)) (by first | decide | omega) rfl rfl (Nat.le_of_ble_eq_true rfl) (Nat.le_of_ble_eq_true rfl) (Nat.le_of_ble_eq_true rfl) 0 rfl rfl rfl rfl 71 rfl d_Mod_act_68 ?_
          exact r_iret rfl (Nat.zero_le _) (Nat.zero_le _) d_Mod_act_71 (by rw [← hQ]; rw [show R_act (ν 0) (σ 1) (σ 2) (σ 37) (nI pN) (nI kN) x = te pN K (σ 2 pN) 7 K x ((0, σ 37) : Trc) from by unfold R_act; rw [if_pos ⟨h10, h19⟩, ekN, epN, hK, cn_nI (show K < 2 ^ 31 by omega), if_neg h33, if_neg h49]]; exact ⟨rfl, rfl⟩)
        · refine r_aload_n rfl 53 rfl d_Mod_act_52 ?_
          refine r_iload_n rfl 54 rfl d_Mod_act_53 ?_
          refine r_iload rfl 56 rfl d_Mod_act_54 ?_
          refine r_iload_n rfl 57 rfl d_Mod_act_56 ?_
          refine r_callVA1 (st2 := [.int ((le pN K (σ 2 pN) 7 K x ((0, σ 37) : Trc)).1)]) (w2 := MW X a (u1 ν 36 ((le pN K (σ 2 pN) 7 K x ((0, σ 37) : Trc)).2).1) (u2 σ 37 ((le pN K (σ 2 pN) 7 K x ((0, σ 37) : Trc)).2).2) τ) lk_Mod_lets ln_Mod_339 (c_Mod_lets X a ν σ τ pN (σ 2 pN) (by omega) rfl K hK hK6 7 K x ((0, σ 37) : Trc) hK6 (by omega) (by show (0 : Nat) + _ < 100000; omega)) (by first | decide | omega) rfl rfl (Nat.le_of_ble_eq_true rfl) (Nat.le_of_ble_eq_true rfl) (Nat.le_of_ble_eq_true rfl) 0 rfl rfl rfl rfl 60 rfl d_Mod_act_57 ?_
          refine r_goto 71 rfl d_Mod_act_60 ?_
          exact r_iret rfl (Nat.zero_le _) (Nat.zero_le _) d_Mod_act_71 (by rw [← hQ]; rw [show R_act (ν 0) (σ 1) (σ 2) (σ 37) (nI pN) (nI kN) x = le pN K (σ 2 pN) 7 K x ((0, σ 37) : Trc) from by unfold R_act; rw [if_pos ⟨h10, h19⟩, ekN, epN, hK, cn_nI (show K < 2 ^ 31 by omega), if_neg h33, if_pos h49]]; exact ⟨rfl, rfl⟩)
      · refine r_aload_n rfl 37 rfl d_Mod_act_36 ?_
        refine r_iload_n rfl 38 rfl d_Mod_act_37 ?_
        refine r_iload rfl 40 rfl d_Mod_act_38 ?_
        refine r_iload_n rfl 41 rfl d_Mod_act_40 ?_
        refine r_callVA1 (st2 := [.int ((gr pN (σ 2 pN) 7 K x ((0, σ 37) : Trc)).1)]) (w2 := MW X a (u1 ν 36 ((gr pN (σ 2 pN) 7 K x ((0, σ 37) : Trc)).2).1) (u2 σ 37 ((gr pN (σ 2 pN) 7 K x ((0, σ 37) : Trc)).2).2) τ) lk_Mod_grips ln_Mod_332 (c_Mod_grips X a ν σ τ pN (σ 2 pN) (by omega) rfl 7 K x ((0, σ 37) : Trc) hK6 (by omega) (by show (0 : Nat) + _ < 100000; omega)) (by first | decide | omega) rfl rfl (Nat.le_of_ble_eq_true rfl) (Nat.le_of_ble_eq_true rfl) (Nat.le_of_ble_eq_true rfl) 0 rfl rfl rfl rfl 44 rfl d_Mod_act_41 ?_
        refine r_goto 71 rfl d_Mod_act_44 ?_
        exact r_iret rfl (Nat.zero_le _) (Nat.zero_le _) d_Mod_act_71 (by rw [← hQ]; rw [show R_act (ν 0) (σ 1) (σ 2) (σ 37) (nI pN) (nI kN) x = gr pN (σ 2 pN) 7 K x ((0, σ 37) : Trc) from by unfold R_act; rw [if_pos ⟨h10, h19⟩, ekN, epN, hK, cn_nI (show K < 2 ^ 31 by omega), if_pos h33]]; exact ⟨rfl, rfl⟩)
    · refine r_iconst (nI 0) rfl 23 rfl d_Mod_act_22 ?_
      exact r_iret rfl (Nat.zero_le _) (Nat.zero_le _) d_Mod_act_23 (by rw [← hQ]; rw [show R_act (ν 0) (σ 1) (σ 2) (σ 37) (nI pN) k x = (nI 0, ((0, σ 37) : Trc)) from by simp [R_act, h10, epN, mpN, h19]]; exact ⟨rfl, rfl⟩)
theorem c_Mod_trace (X : Xn) (a ν : Nat → Nat) (σ : Nat → Nat → Int32) (τ : Nat → Int64) (ht : ν 36 < 100000) (i : Int32) : Does X 3 M_Mod_trace [.ref (a 0), .int i] (MW X a ν σ τ) 0 0 (fun (vv : Option Value) (ww : va_W) => vv = some (.int (R_trace (ν 36) (σ 37) i)) ∧ ww = MW X a ν σ τ) := by
  generalize hQ : (fun (vv : Option Value) (ww : va_W) => vv = some (.int (R_trace (ν 36) (σ 37) i)) ∧ ww = MW X a ν σ τ) = Q
  refine Does.go rfl (Nat.le_of_ble_eq_true rfl) [some (.ref (a 0)), some (.int i)] 0 rfl ?_
  refine r_iload_n rfl 1 rfl d_Mod_trace_0 ?_
  refine r_iconst (nI 0) rfl 2 rfl d_Mod_trace_1 ?_
  refine r_bipush (nI 20) rfl 4 rfl d_Mod_trace_2 ?_
  refine r_aload_n rfl 5 rfl d_Mod_trace_4 ?_
  refine r_getf (v := .int (nI (ν 36))) gf_Mod_326 0 rfl rfl 8 rfl d_Mod_trace_5 ?_
  refine r_mmin (inTB 1187 (by decide +kernel) rfl) (by first | decide | omega) (Nat.le_of_ble_eq_true rfl) (Nat.le_of_ble_eq_true rfl) (Nat.le_of_ble_eq_true rfl) 11 rfl d_Mod_trace_8 ?_
  refine r_topi (nI (mn20 (ν 36))) (mn20_eq (by omega)) ?_
  refine r_iconst (nI 1) rfl 12 rfl d_Mod_trace_11 ?_
  refine r_isub 13 rfl d_Mod_trace_12 ?_
  refine r_callS1 (st2 := [.int (bI (inR i (nI 0) ((nI (mn20 (ν 36))) - (nI 1))))]) (w2 := MW X a ν σ τ) lk_Mod_within ln_Mod_114 (c_Mod_within X i (nI 0) ((nI (mn20 (ν 36))) - (nI 1))) (by first | decide | omega) rfl rfl (Nat.le_of_ble_eq_true rfl) (Nat.le_of_ble_eq_true rfl) (Nat.le_of_ble_eq_true rfl) [] rfl rfl rfl rfl rfl 16 rfl d_Mod_trace_13 ?_
  refine r_if_eqB 19 28 rfl rfl d_Mod_trace_16 (fun h16 => ?_) (fun h16 => ?_)
  · refine r_iconst ((-1)) rfl 29 rfl d_Mod_trace_28 ?_
    exact r_iret rfl (Nat.zero_le _) (Nat.zero_le _) d_Mod_trace_29 (by rw [← hQ]; exact ⟨by unfold R_trace; rw [if_neg (by rw [show isB (mn20 (ν 36)) i = false from h16]; decide)], rfl⟩)
  · have h20 : mn20 (ν 36) ≤ 20 := by unfold mn20; split <;> omega
    obtain ⟨iN, hiN, rfl⟩ := isB_tG (n := mn20 (ν 36)) (by omega) h16
    have eiN : cn (nI iN) = iN := cn_nI (by omega)
    refine r_aload_n rfl 20 rfl d_Mod_trace_19 ?_
    refine r_getf (v := .ref (a 37)) gf_Mod_82 0 rfl rfl 23 rfl d_Mod_trace_20 ?_
    refine r_iload_n rfl 24 rfl d_Mod_trace_23 ?_
    refine r_iald 24 rfl iN rfl (by omega) (by omega) 25 rfl d_Mod_trace_24 ?_
    refine r_goto 29 rfl d_Mod_trace_25 ?_
    exact r_iret rfl (Nat.zero_le _) (Nat.zero_le _) d_Mod_trace_29 (by rw [← hQ]; exact ⟨by unfold R_trace; rw [if_pos (show isB (mn20 (ν 36)) (nI iN) = true from h16), eiN], rfl⟩)
theorem c_Mod_count (X : Xn) (a ν : Nat → Nat) (σ : Nat → Nat → Int32) (τ : Nat → Int64) (w : Int32) : Does X 1 M_Mod_count [.ref (a 0), .int w] (MW X a ν σ τ) 0 0 (fun (vv : Option Value) (ww : va_W) => vv = some (.int (R_count ν w)) ∧ ww = MW X a ν σ τ) := by
  generalize hQ : (fun (vv : Option Value) (ww : va_W) => vv = some (.int (R_count ν w)) ∧ ww = MW X a ν σ τ) = Q
  refine Does.go rfl (Nat.le_of_ble_eq_true rfl) [some (.ref (a 0)), some (.int w)] 0 rfl ?_
  refine r_iload_n rfl 1 rfl d_Mod_count_0 ?_
  by_cases h1_0 : w = 0
  · refine r_tableIn 44 d_Mod_count_1 (by rw [h1_0]; decide) (by rw [h1_0]; decide) (by rw [h1_0]; try rfl) rfl ?_
    refine r_aload_n rfl 45 rfl d_Mod_count_44 ?_
    refine r_getf (v := .int (nI (ν 0))) gf_Mod_111 0 rfl rfl 48 rfl d_Mod_count_45 ?_
    exact r_iret rfl (Nat.zero_le _) (Nat.zero_le _) d_Mod_count_48 (by rw [← hQ]; exact ⟨by simp [R_count, h1_0], by first | (simp [R_count, h1_0, u2_self, u1_self]; done) | (simp [R_count, h1_0, u2_self, u1_self]; rw [← h1_0, u1_self])⟩)
  by_cases h1_1 : w = 1
  · refine r_tableIn 49 d_Mod_count_1 (by rw [h1_1]; decide) (by rw [h1_1]; decide) (by rw [h1_1]; try rfl) rfl ?_
    refine r_aload_n rfl 50 rfl d_Mod_count_49 ?_
    refine r_getf (v := .int (nI (ν 13))) gf_Mod_216 0 rfl rfl 53 rfl d_Mod_count_50 ?_
    exact r_iret rfl (Nat.zero_le _) (Nat.zero_le _) d_Mod_count_53 (by rw [← hQ]; exact ⟨by simp [R_count, h1_1], by first | (simp [R_count, h1_1, u2_self, u1_self]; done) | (simp [R_count, h1_1, u2_self, u1_self]; rw [← h1_1, u1_self])⟩)
  by_cases h1_2 : w = 2
  · refine r_tableIn 54 d_Mod_count_1 (by rw [h1_2]; decide) (by rw [h1_2]; decide) (by rw [h1_2]; try rfl) rfl ?_
    refine r_aload_n rfl 55 rfl d_Mod_count_54 ?_
    refine r_getf (v := .int (nI (ν 23))) gf_Mod_297 0 rfl rfl 58 rfl d_Mod_count_55 ?_
    exact r_iret rfl (Nat.zero_le _) (Nat.zero_le _) d_Mod_count_58 (by rw [← hQ]; exact ⟨by simp [R_count, h1_2], by first | (simp [R_count, h1_2, u2_self, u1_self]; done) | (simp [R_count, h1_2, u2_self, u1_self]; rw [← h1_2, u1_self])⟩)
  by_cases h1_3 : w = 3
  · refine r_tableIn 59 d_Mod_count_1 (by rw [h1_3]; decide) (by rw [h1_3]; decide) (by rw [h1_3]; try rfl) rfl ?_
    refine r_aload_n rfl 60 rfl d_Mod_count_59 ?_
    refine r_getf (v := .int (nI (ν 29))) gf_Mod_312 0 rfl rfl 63 rfl d_Mod_count_60 ?_
    exact r_iret rfl (Nat.zero_le _) (Nat.zero_le _) d_Mod_count_63 (by rw [← hQ]; exact ⟨by simp [R_count, h1_3], by first | (simp [R_count, h1_3, u2_self, u1_self]; done) | (simp [R_count, h1_3, u2_self, u1_self]; rw [← h1_3, u1_self])⟩)
  by_cases h1_4 : w = 4
  · refine r_tableIn 64 d_Mod_count_1 (by rw [h1_4]; decide) (by rw [h1_4]; decide) (by rw [h1_4]; try rfl) rfl ?_
    refine r_aload_n rfl 65 rfl d_Mod_count_64 ?_
    refine r_getf (v := .int (nI (ν 32))) gf_Mod_319 0 rfl rfl 68 rfl d_Mod_count_65 ?_
    exact r_iret rfl (Nat.zero_le _) (Nat.zero_le _) d_Mod_count_68 (by rw [← hQ]; exact ⟨by simp [R_count, h1_4], by first | (simp [R_count, h1_4, u2_self, u1_self]; done) | (simp [R_count, h1_4, u2_self, u1_self]; rw [← h1_4, u1_self])⟩)
  by_cases h1_5 : w = 5
  · refine r_tableIn 69 d_Mod_count_1 (by rw [h1_5]; decide) (by rw [h1_5]; decide) (by rw [h1_5]; try rfl) rfl ?_
    refine r_aload_n rfl 70 rfl d_Mod_count_69 ?_
    refine r_getf (v := .int (nI (ν 7))) gf_Mod_144 0 rfl rfl 73 rfl d_Mod_count_70 ?_
    exact r_iret rfl (Nat.zero_le _) (Nat.zero_le _) d_Mod_count_73 (by rw [← hQ]; exact ⟨by simp [R_count, h1_5], by first | (simp [R_count, h1_5, u2_self, u1_self]; done) | (simp [R_count, h1_5, u2_self, u1_self]; rw [← h1_5, u1_self])⟩)
  by_cases h1_6 : w = 6
  · refine r_tableIn 74 d_Mod_count_1 (by rw [h1_6]; decide) (by rw [h1_6]; decide) (by rw [h1_6]; try rfl) rfl ?_
    refine r_aload_n rfl 75 rfl d_Mod_count_74 ?_
    refine r_getf (v := .int (nI (ν 36))) gf_Mod_326 0 rfl rfl 78 rfl d_Mod_count_75 ?_
    exact r_iret rfl (Nat.zero_le _) (Nat.zero_le _) d_Mod_count_78 (by rw [← hQ]; exact ⟨by simp [R_count, h1_6], by first | (simp [R_count, h1_6, u2_self, u1_self]; done) | (simp [R_count, h1_6, u2_self, u1_self]; rw [← h1_6, u1_self])⟩)
  have t1_0 : ¬ (w).toInt = 0 := lv_neT h1_0 (by decide)
  have t1_1 : ¬ (w).toInt = 1 := lv_neT h1_1 (by decide)
  have t1_2 : ¬ (w).toInt = 2 := lv_neT h1_2 (by decide)
  have t1_3 : ¬ (w).toInt = 3 := lv_neT h1_3 (by decide)
  have t1_4 : ¬ (w).toInt = 4 := lv_neT h1_4 (by decide)
  have t1_5 : ¬ (w).toInt = 5 := lv_neT h1_5 (by decide)
  have t1_6 : ¬ (w).toInt = 6 := lv_neT h1_6 (by decide)
  refine r_tableOut 79 d_Mod_count_1 (by omega) rfl ?_
  refine r_bipush ((-2)) rfl 81 rfl d_Mod_count_79 ?_
  exact r_iret rfl (Nat.zero_le _) (Nat.zero_le _) d_Mod_count_81 (by rw [← hQ]; exact ⟨by simp [R_count, h1_0, h1_1, h1_2, h1_3, h1_4, h1_5, h1_6], by first | (simp [R_count, h1_0, h1_1, h1_2, h1_3, h1_4, h1_5, h1_6, u2_self, u1_self]; done) | (simp [R_count, h1_0, h1_1, h1_2, h1_3, h1_4, h1_5, h1_6, u2_self, u1_self]; rw [← h1_6, u1_self])⟩)
theorem c_Mod_image (X : Xn) (a ν : Nat → Nat) (σ : Nat → Nat → Int32) (τ : Nat → Int64)  : Does X 2 M_Mod_image [.ref (a 0)] (MW X a ν σ τ) 0 0 (fun (vv : Option Value) (ww : va_W) => vv = some (.int (nI (ν 0))) ∧ ww = MW X a ν (u2 (u2 σ 38 (upd (σ 38) 0 (nI 1))) 39 (keepF ν (u2 σ 38 (upd (σ 38) 0 (nI 1))) (σ 39))) τ) := by
  generalize hQ : (fun (vv : Option Value) (ww : va_W) => vv = some (.int (nI (ν 0))) ∧ ww = MW X a ν (u2 (u2 σ 38 (upd (σ 38) 0 (nI 1))) 39 (keepF ν (u2 σ 38 (upd (σ 38) 0 (nI 1))) (σ 39))) τ) = Q
  refine Does.go rfl (Nat.le_of_ble_eq_true rfl) [some (.ref (a 0))] 0 rfl ?_
  refine r_aload_n rfl 1 rfl d_Mod_image_0 ?_
  refine r_iconst (nI 1) rfl 2 rfl d_Mod_image_1 ?_
  refine r_putf (w2 := MW X a ν (u2 σ 38 (upd (σ 38) 0 (nI 1))) τ) pf_Mod_322 0 rfl (rfl) rfl (Nat.le_of_ble_eq_true rfl) rfl 5 rfl d_Mod_image_2 ?_
  refine r_aload_n rfl 6 rfl d_Mod_image_5 ?_
  refine r_aload_n rfl 7 rfl d_Mod_image_6 ?_
  refine r_getf (v := .ref (a 39)) gf_Mod_85 0 rfl rfl 10 rfl d_Mod_image_7 ?_
  refine r_callVA1 (st2 := []) (w2 := MW X a ν (u2 (u2 σ 38 (upd (σ 38) 0 (nI 1))) 39 (keepF ν (u2 σ 38 (upd (σ 38) 0 (nI 1))) (σ 39))) τ) lk_Mod_keep ln_Mod_254 (c_Mod_keep39 X a ν (u2 σ 38 (upd (σ 38) 0 (nI 1))) τ) (by first | decide | omega) rfl rfl (Nat.le_of_ble_eq_true rfl) (Nat.le_of_ble_eq_true rfl) (Nat.le_of_ble_eq_true rfl) 0 rfl rfl rfl rfl 13 rfl d_Mod_image_10 ?_
  refine r_aload_n rfl 14 rfl d_Mod_image_13 ?_
  refine r_getf (v := .int (nI (ν 0))) gf_Mod_111 0 rfl rfl 17 rfl d_Mod_image_14 ?_
  exact r_iret rfl (Nat.zero_le _) (Nat.zero_le _) d_Mod_image_17 (by rw [← hQ]; exact ⟨rfl, rfl⟩)
theorem c_Mod_undo0 (X : Xn) (a ν : Nat → Nat) (σ : Nat → Nat → Int32) (τ : Nat → Int64) (him : σ 38 0 = nI 0) : Does X 2 M_Mod_undo [.ref (a 0)] (MW X a ν σ τ) 0 0 (fun (vv : Option Value) (ww : va_W) => vv = some (.int (-3)) ∧ ww = MW X a ν σ τ) := by
  generalize hQ : (fun (vv : Option Value) (ww : va_W) => vv = some (.int (-3)) ∧ ww = MW X a ν σ τ) = Q
  refine Does.go rfl (Nat.le_of_ble_eq_true rfl) [some (.ref (a 0))] 0 rfl ?_
  refine r_aload_n rfl 1 rfl d_Mod_undo_0 ?_
  refine r_getf (v := .int (σ 38 0)) gf_Mod_322 0 rfl rfl 4 rfl d_Mod_undo_1 ?_
  refine r_topi (nI 0) him ?_
  refine r_if_neN_f 0 (by omega) 7 rfl 10 rfl d_Mod_undo_4 (rfl) ?_
  refine r_bipush ((-3)) rfl 9 rfl d_Mod_undo_7 ?_
  exact r_iret rfl (Nat.zero_le _) (Nat.zero_le _) d_Mod_undo_9 (by rw [← hQ]; exact ⟨rfl, rfl⟩)
theorem c_Mod_undo1 (X : Xn) (a ν : Nat → Nat) (σ : Nat → Nat → Int32) (τ : Nat → Int64) (him : σ 38 0 = nI 1) (n0 d0 s0 p0 b0 : Nat) (e147 : σ 39 147 = nI n0) (e148 : σ 39 148 = nI d0) (e149 : σ 39 149 = nI s0) (e150 : σ 39 150 = nI p0) (e151 : σ 39 151 = nI b0) : Does X 2 M_Mod_undo [.ref (a 0)] (MW X a ν σ τ) 0 0 (fun (vv : Option Value) (ww : va_W) => vv = some (.int (nI n0)) ∧ ww = MW X a (u1 (u1 (u1 (u1 (u1 ν 0 n0) 6 d0) 23 s0) 29 p0) 32 b0) (againF σ (σ 39)) τ) := by
  generalize hQ : (fun (vv : Option Value) (ww : va_W) => vv = some (.int (nI n0)) ∧ ww = MW X a (u1 (u1 (u1 (u1 (u1 ν 0 n0) 6 d0) 23 s0) 29 p0) 32 b0) (againF σ (σ 39)) τ) = Q
  refine Does.go rfl (Nat.le_of_ble_eq_true rfl) [some (.ref (a 0))] 0 rfl ?_
  refine r_aload_n rfl 1 rfl d_Mod_undo_0 ?_
  refine r_getf (v := .int (σ 38 0)) gf_Mod_322 0 rfl rfl 4 rfl d_Mod_undo_1 ?_
  refine r_topi (nI 1) him ?_
  refine r_if_neN_t 1 (by omega) 10 rfl d_Mod_undo_4 (by decide) ?_
  refine r_aload_n rfl 11 rfl d_Mod_undo_10 ?_
  refine r_aload_n rfl 12 rfl d_Mod_undo_11 ?_
  refine r_getf (v := .ref (a 39)) gf_Mod_85 0 rfl rfl 15 rfl d_Mod_undo_12 ?_
  refine r_callVA1 (st2 := []) (w2 := MW X a (u1 (u1 (u1 (u1 (u1 ν 0 n0) 6 d0) 23 s0) 29 p0) 32 b0) (againF σ (σ 39)) τ) lk_Mod_again ln_Mod_259 (c_Mod_again39 X a ν σ τ n0 d0 s0 p0 b0 e147 e148 e149 e150 e151) (by first | decide | omega) rfl rfl (Nat.le_of_ble_eq_true rfl) (Nat.le_of_ble_eq_true rfl) (Nat.le_of_ble_eq_true rfl) 0 rfl rfl rfl rfl 18 rfl d_Mod_undo_15 ?_
  refine r_aload_n rfl 19 rfl d_Mod_undo_18 ?_
  refine r_getf (v := .int (nI n0)) gf_Mod_111 0 rfl rfl 22 rfl d_Mod_undo_19 ?_
  exact r_iret rfl (Nat.zero_le _) (Nat.zero_le _) d_Mod_undo_22 (by rw [← hQ]; exact ⟨rfl, rfl⟩)
theorem c_Mod_taken (X : Xn) (a ν : Nat → Nat) (σ : Nat → Nat → Int32) (τ : Nat → Int64) (hn6 : ν 0 ≤ 6) (hkd : ∀ i, i < 6 → ∃ K : Nat, K ≤ 6 ∧ σ 1 i = nI K) (p k : Int32) : Does X 4 M_Mod_taken [.ref (a 0), .int p, .int k] (MW X a ν σ τ) 0 0 (fun (vv : Option Value) (ww : va_W) => vv = some (.int (R_taken (ν 0) (σ 1) p k)) ∧ ww = MW X a ν σ τ) := by
  generalize hQ : (fun (vv : Option Value) (ww : va_W) => vv = some (.int (R_taken (ν 0) (σ 1) p k)) ∧ ww = MW X a ν σ τ) = Q
  refine Does.go rfl (Nat.le_of_ble_eq_true rfl) [some (.ref (a 0)), some (.int p), some (.int k), none] 1 rfl ?_
  refine r_iload_n rfl 1 rfl d_Mod_taken_0 ?_
  refine r_iconst (nI 0) rfl 2 rfl d_Mod_taken_1 ?_
  refine r_bipush (nI 6) rfl 4 rfl d_Mod_taken_2 ?_
  refine r_callS1 (st2 := [.int (bI (inR k (nI 0) (nI 6)))]) (w2 := MW X a ν σ τ) lk_Mod_within ln_Mod_114 (c_Mod_within X k (nI 0) (nI 6)) (by first | decide | omega) rfl rfl (Nat.le_of_ble_eq_true rfl) (Nat.le_of_ble_eq_true rfl) (Nat.le_of_ble_eq_true rfl) [] rfl rfl rfl rfl rfl 7 rfl d_Mod_taken_4 ?_
  refine r_if_neB 10 13 rfl rfl d_Mod_taken_7 (fun h7 => ?_) (fun h7 => ?_)
  · obtain ⟨kN, hkN, rfl⟩ := inR_t (by decide) h7
    have ekN : cn (nI kN) = kN := cn_nI (by omega)
    have mkN : ¬ nI kN = -1 := m1n (by omega)
    refine r_aload_n rfl 14 rfl d_Mod_taken_13 ?_
    refine r_iload_n rfl 15 rfl d_Mod_taken_14 ?_
    refine r_callVA1 (st2 := [.int (bI (isB (ν 0) p))]) (w2 := MW X a ν σ τ) lk_Mod_isOne ln_Mod_118 (c_Mod_isOne X a ν σ τ p) (by first | decide | omega) rfl rfl (Nat.le_of_ble_eq_true rfl) (Nat.le_of_ble_eq_true rfl) (Nat.le_of_ble_eq_true rfl) 0 rfl rfl rfl rfl 18 rfl d_Mod_taken_15 ?_
    refine r_if_neB 21 24 rfl rfl d_Mod_taken_18 (fun h18 => ?_) (fun h18 => ?_)
    · obtain ⟨pN, hpN, rfl⟩ := isB_t hn6 h18
      have epN : cn (nI pN) = pN := cn_nI (by omega)
      have mpN : ¬ nI pN = -1 := m1n (by omega)
      refine r_aload_n rfl 25 rfl d_Mod_taken_24 ?_
      refine r_getf (v := .ref (a 1)) gf_Mod_9 0 rfl rfl 28 rfl d_Mod_taken_25 ?_
      refine r_iload_n rfl 29 rfl d_Mod_taken_28 ?_
      refine r_iald 1 rfl pN rfl (by omega) (by omega) 30 rfl d_Mod_taken_29 ?_
      obtain ⟨K, hK6, hK⟩ := hkd pN (by omega)
      refine r_topi (nI K) hK ?_
      refine r_istore_n (ls2 := [some (.ref (a 0)), some (.int (nI pN)), some (.int (nI kN)), some (.int (nI K))]) 31 rfl d_Mod_taken_30 (by decide) rfl rfl ?_
      have L31_1 : ∀ (f : Nat) (u : Nat), (u ≤ 6) → (cls u kN = cls K kN) → u < f → Runs X 4 M_Mod_taken 0 0 Q 31 [some (.ref (a 0)), some (.int (nI pN)), some (.int (nI kN)), some (.int (nI u))] [] 0 0 (MW X a ν σ τ) := by
        intro f
        induction f with
        | zero => intro u hu hc hmu; exact absurd hmu (Nat.not_lt_zero _)
        | succ f ih2 =>
          intro u hu hc hmu
          refine r_iload_n rfl 32 rfl d_Mod_taken_31 ?_
          refine r_iload_n rfl 33 rfl d_Mod_taken_32 ?_
          refine r_icmp_eqN u kN (by omega) (by omega) 36 48 rfl rfl d_Mod_taken_33 (fun h33 => ?_) (fun h33 => ?_)
          · refine r_iload_n rfl 49 rfl d_Mod_taken_48 ?_
            refine r_iload_n rfl 50 rfl d_Mod_taken_49 ?_
            refine r_icmp_neN u kN (by omega) (by omega) 53 62 rfl rfl d_Mod_taken_50 (fun h50 => ?_) (fun h50 => ?_)
            · have hcl : cls K kN = false := by rw [← hc, cls_0 ⟨u, by omega⟩ ⟨kN, by omega⟩ (by first | exact Or.inl h33 | exact Or.inr (by simp only; omega))]; simp [h50]
              refine r_bipush ((-12)) rfl 64 rfl d_Mod_taken_62 ?_
              exact r_iret rfl (Nat.zero_le _) (Nat.zero_le _) d_Mod_taken_64 (by rw [← hQ]; exact ⟨by simp [R_taken, h7, ekN, mkN, h18, epN, mpN, hK, cn_nI (show K < 2 ^ 31 by omega), hcl], rfl⟩)
            · have hcl : cls K kN = true := by rw [← hc, cls_0 ⟨u, by omega⟩ ⟨kN, by omega⟩ (by first | exact Or.inl h33 | exact Or.inr (by simp only; omega))]; simp [h50]
              refine r_aload_n rfl 54 rfl d_Mod_taken_53 ?_
              refine r_getf (v := .ref (a 1)) gf_Mod_9 0 rfl rfl 57 rfl d_Mod_taken_54 ?_
              refine r_iload_n rfl 58 rfl d_Mod_taken_57 ?_
              refine r_iald 1 rfl pN rfl (by omega) (by omega) 59 rfl d_Mod_taken_58 ?_
              refine r_goto 64 rfl d_Mod_taken_59 ?_
              exact r_iret rfl (Nat.zero_le _) (Nat.zero_le _) d_Mod_taken_64 (by rw [← hQ]; exact ⟨by simp [R_taken, h7, ekN, mkN, h18, epN, mpN, hK, cn_nI (show K < 2 ^ 31 by omega), hcl], rfl⟩)
          · refine r_iload_n rfl 37 rfl d_Mod_taken_36 ?_
            refine r_if_leN u (by omega) 40 48 rfl rfl d_Mod_taken_37 (fun h37 => ?_) (fun h37 => ?_)
            · have n37 := Nat.not_lt.mpr h37
              refine r_iload_n rfl 49 rfl d_Mod_taken_48 ?_
              refine r_iload_n rfl 50 rfl d_Mod_taken_49 ?_
              refine r_icmp_neN u kN (by omega) (by omega) 53 62 rfl rfl d_Mod_taken_50 (fun h50 => ?_) (fun h50 => ?_)
              · have hcl : cls K kN = false := by rw [← hc, cls_0 ⟨u, by omega⟩ ⟨kN, by omega⟩ (by first | exact Or.inl h33 | exact Or.inr (by simp only; omega))]; simp [h50]
                refine r_bipush ((-12)) rfl 64 rfl d_Mod_taken_62 ?_
                exact r_iret rfl (Nat.zero_le _) (Nat.zero_le _) d_Mod_taken_64 (by rw [← hQ]; exact ⟨by simp [R_taken, h7, ekN, mkN, h18, epN, mpN, n37, hK, cn_nI (show K < 2 ^ 31 by omega), hcl], rfl⟩)
              · have hcl : cls K kN = true := by rw [← hc, cls_0 ⟨u, by omega⟩ ⟨kN, by omega⟩ (by first | exact Or.inl h33 | exact Or.inr (by simp only; omega))]; simp [h50]
                refine r_aload_n rfl 54 rfl d_Mod_taken_53 ?_
                refine r_getf (v := .ref (a 1)) gf_Mod_9 0 rfl rfl 57 rfl d_Mod_taken_54 ?_
                refine r_iload_n rfl 58 rfl d_Mod_taken_57 ?_
                refine r_iald 1 rfl pN rfl (by omega) (by omega) 59 rfl d_Mod_taken_58 ?_
                refine r_goto 64 rfl d_Mod_taken_59 ?_
                exact r_iret rfl (Nat.zero_le _) (Nat.zero_le _) d_Mod_taken_64 (by rw [← hQ]; exact ⟨by simp [R_taken, h7, ekN, mkN, h18, epN, mpN, n37, hK, cn_nI (show K < 2 ^ 31 by omega), hcl], rfl⟩)
            · have n37 := Nat.not_le.mpr h37
              refine r_iload_n rfl 41 rfl d_Mod_taken_40 ?_
              refine r_callS1 (st2 := [.int (nI (abv u))]) (w2 := MW X a ν σ τ) lk_Mod_above ln_Mod_336 (c_Mod_above X u (by omega)) (by first | decide | omega) rfl rfl (Nat.le_of_ble_eq_true rfl) (Nat.le_of_ble_eq_true rfl) (Nat.le_of_ble_eq_true rfl) [] rfl rfl rfl rfl rfl 44 rfl d_Mod_taken_41 ?_
              refine r_istore_n (ls2 := [some (.ref (a 0)), some (.int (nI pN)), some (.int (nI kN)), some (.int (nI (abv u)))]) 45 rfl d_Mod_taken_44 (by decide) rfl rfl ?_
              refine r_goto 31 rfl d_Mod_taken_45 ?_
              exact ih2 (abv u) (by have := abv_lt ⟨u, by omega⟩ h37; simp only at this; omega) (by rw [← hc]; exact cls_up ⟨u, by omega⟩ ⟨kN, by omega⟩ h33 h37) (by have := abv_lt ⟨u, by omega⟩ h37; simp only at this; omega)
      exact L31_1 _ K (hK6) (rfl) (Nat.lt_succ_self _)
    · refine r_bipush ((-11)) rfl 23 rfl d_Mod_taken_21 ?_
      exact r_iret rfl (Nat.zero_le _) (Nat.zero_le _) d_Mod_taken_23 (by rw [← hQ]; exact ⟨by simp [R_taken, h7, ekN, mkN, h18], rfl⟩)
  · refine r_bipush ((-2)) rfl 12 rfl d_Mod_taken_10 ?_
    exact r_iret rfl (Nat.zero_le _) (Nat.zero_le _) d_Mod_taken_12 (by rw [← hQ]; exact ⟨by simp [R_taken, h7], rfl⟩)
theorem c_Mod_of (X : Xn) (a ν : Nat → Nat) (σ : Nat → Nat → Int32) (τ : Nat → Int64) (hn6 : ν 0 ≤ 6) (p w : Int32) : Does X 6 M_Mod_of [.ref (a 0), .int p, .int w] (MW X a ν σ τ) 0 0 (fun (vv : Option Value) (ww : va_W) => ∃ r : Int32, ofP (ν 0) (σ 1) (σ 2) (σ 3) (σ 5) p w r ∧ vv = some (.int r) ∧ ww = MW X a ν σ τ) := by
  generalize hQ : (fun (vv : Option Value) (ww : va_W) => ∃ r : Int32, ofP (ν 0) (σ 1) (σ 2) (σ 3) (σ 5) p w r ∧ vv = some (.int r) ∧ ww = MW X a ν σ τ) = Q
  refine Does.go rfl (Nat.le_of_ble_eq_true rfl) [some (.ref (a 0)), some (.int p), some (.int w)] 0 rfl ?_
  refine r_aload_n rfl 1 rfl d_Mod_of_0 ?_
  refine r_iload_n rfl 2 rfl d_Mod_of_1 ?_
  refine r_callVA1 (st2 := [.int (bI (isB (ν 0) p))]) (w2 := MW X a ν σ τ) lk_Mod_isOne ln_Mod_118 (c_Mod_isOne X a ν σ τ p) (by first | decide | omega) rfl rfl (Nat.le_of_ble_eq_true rfl) (Nat.le_of_ble_eq_true rfl) (Nat.le_of_ble_eq_true rfl) 0 rfl rfl rfl rfl 5 rfl d_Mod_of_2 ?_
  refine r_if_neB 8 11 rfl rfl d_Mod_of_5 (fun h5 => ?_) (fun h5 => ?_)
  · obtain ⟨pN, hpN, rfl⟩ := isB_t hn6 h5
    have epN : cn (nI pN) = pN := cn_nI (by omega)
    have mpN : ¬ nI pN = -1 := m1n (by omega)
    refine r_iload_n rfl 12 rfl d_Mod_of_11 ?_
    by_cases h12_0 : w = 0
    · refine r_tableIn 60 d_Mod_of_12 (by rw [h12_0]; decide) (by rw [h12_0]; decide) (by rw [h12_0]; try rfl) rfl ?_
      refine r_aload_n rfl 61 rfl d_Mod_of_60 ?_
      refine r_getf (v := .ref (a 1)) gf_Mod_9 0 rfl rfl 64 rfl d_Mod_of_61 ?_
      refine r_iload_n rfl 65 rfl d_Mod_of_64 ?_
      refine r_iald 1 rfl pN rfl (by omega) (by omega) 66 rfl d_Mod_of_65 ?_
      exact r_iret rfl (Nat.zero_le _) (Nat.zero_le _) d_Mod_of_66 (by rw [← hQ]; exact ⟨_, by simp [ofP, h5, epN, mpN, h12_0], rfl, rfl⟩)
    by_cases h12_1 : w = 1
    · refine r_tableIn 67 d_Mod_of_12 (by rw [h12_1]; decide) (by rw [h12_1]; decide) (by rw [h12_1]; try rfl) rfl ?_
      refine r_aload_n rfl 68 rfl d_Mod_of_67 ?_
      refine r_getf (v := .ref (a 2)) gf_Mod_15 0 rfl rfl 71 rfl d_Mod_of_68 ?_
      refine r_iload_n rfl 72 rfl d_Mod_of_71 ?_
      refine r_iald 2 rfl pN rfl (by omega) (by omega) 73 rfl d_Mod_of_72 ?_
      exact r_iret rfl (Nat.zero_le _) (Nat.zero_le _) d_Mod_of_73 (by rw [← hQ]; exact ⟨_, by simp [ofP, h5, epN, mpN, h12_1], rfl, rfl⟩)
    by_cases h12_2 : w = 2
    · refine r_tableIn 74 d_Mod_of_12 (by rw [h12_2]; decide) (by rw [h12_2]; decide) (by rw [h12_2]; try rfl) rfl ?_
      refine r_aload_n rfl 75 rfl d_Mod_of_74 ?_
      refine r_getf (v := .ref (a 3)) gf_Mod_18 0 rfl rfl 78 rfl d_Mod_of_75 ?_
      refine r_iload_n rfl 79 rfl d_Mod_of_78 ?_
      refine r_iald 3 rfl pN rfl (by omega) (by omega) 80 rfl d_Mod_of_79 ?_
      exact r_iret rfl (Nat.zero_le _) (Nat.zero_le _) d_Mod_of_80 (by rw [← hQ]; exact ⟨_, by simp [ofP, h5, epN, mpN, h12_2], rfl, rfl⟩)
    by_cases h12_3 : w = 3
    · refine r_tableIn 81 d_Mod_of_12 (by rw [h12_3]; decide) (by rw [h12_3]; decide) (by rw [h12_3]; try rfl) rfl ?_
      refine r_aload_n rfl 82 rfl d_Mod_of_81 ?_
      refine r_iload_n rfl 83 rfl d_Mod_of_82 ?_
      refine r_callVA1 (st2 := [.int (osum (σ 5) pN (ν 0))]) (w2 := MW X a ν σ τ) lk_Mod_owes ln_Mod_126 (c_Mod_owes X a ν σ τ (by first | omega | exact hn6) pN (by omega)) (by first | decide | omega) rfl rfl (Nat.le_of_ble_eq_true rfl) (Nat.le_of_ble_eq_true rfl) (Nat.le_of_ble_eq_true rfl) 0 rfl rfl rfl rfl 86 rfl d_Mod_of_83 ?_
      exact r_iret rfl (Nat.zero_le _) (Nat.zero_le _) d_Mod_of_86 (by rw [← hQ]; exact ⟨_, by simp [ofP, h5, epN, mpN, h12_3], rfl, rfl⟩)
    by_cases h12_4 : w = 4
    · refine r_tableIn 87 d_Mod_of_12 (by rw [h12_4]; decide) (by rw [h12_4]; decide) (by rw [h12_4]; try rfl) rfl ?_
      refine r_aload_n rfl 88 rfl d_Mod_of_87 ?_
      refine r_iload_n rfl 89 rfl d_Mod_of_88 ?_
      refine r_iconst (nI 0) rfl 90 rfl d_Mod_of_89 ?_
      refine r_callVA1 (st2 := [.int (dsum (σ 5) 0 pN (ν 0))]) (w2 := MW X a ν σ τ) lk_Mod_owed ln_Mod_122 (c_Mod_owed X a ν σ τ (by first | omega | exact hn6) pN 0 (by omega) (by first | omega | assumption)) (by first | decide | omega) rfl rfl (Nat.le_of_ble_eq_true rfl) (Nat.le_of_ble_eq_true rfl) (Nat.le_of_ble_eq_true rfl) 0 rfl rfl rfl rfl 93 rfl d_Mod_of_90 ?_
      exact r_iret rfl (Nat.zero_le _) (Nat.zero_le _) d_Mod_of_93 (by rw [← hQ]; exact ⟨_, by simp [ofP, h5, epN, mpN, h12_4], rfl, rfl⟩)
    by_cases h12_5 : w = 5
    · refine r_tableIn 94 d_Mod_of_12 (by rw [h12_5]; decide) (by rw [h12_5]; decide) (by rw [h12_5]; try rfl) rfl ?_
      refine r_aload_n rfl 95 rfl d_Mod_of_94 ?_
      refine r_iload_n rfl 96 rfl d_Mod_of_95 ?_
      refine r_callVA1 (st2 := [.int (bal (ν 0) (σ 5) pN)]) (w2 := MW X a ν σ τ) lk_Mod_balance ln_Mod_131 (c_Mod_balance X a ν σ τ hn6 pN (by omega)) (by first | decide | omega) rfl rfl (Nat.le_of_ble_eq_true rfl) (Nat.le_of_ble_eq_true rfl) (Nat.le_of_ble_eq_true rfl) 0 rfl rfl rfl rfl 99 rfl d_Mod_of_96 ?_
      exact r_iret rfl (Nat.zero_le _) (Nat.zero_le _) d_Mod_of_99 (by rw [← hQ]; exact ⟨_, by simp [ofP, h5, epN, mpN, h12_5], rfl, rfl⟩)
    by_cases h12_6 : w = 6
    · refine r_tableIn 100 d_Mod_of_12 (by rw [h12_6]; decide) (by rw [h12_6]; decide) (by rw [h12_6]; try rfl) rfl ?_
      refine r_aload_n rfl 101 rfl d_Mod_of_100 ?_
      refine r_iconst (nI 1) rfl 102 rfl d_Mod_of_101 ?_
      refine r_iload_n rfl 103 rfl d_Mod_of_102 ?_
      refine r_ishl 104 rfl d_Mod_of_103 ?_
      refine r_topi (nI (1 <<< pN)) (nI_shl (by omega) (one_shl (by omega))) ?_
      refine r_callVA1 (st2 := [.int (nI (fails (ν 0) (σ 3) (σ 5) (1 <<< pN)))]) (w2 := MW X a ν σ τ) lk_Mod_fails ln_Mod_134 (c_Mod_fails X a ν σ τ hn6 (1 <<< pN) (by first | omega | assumption | exact shl_lt6 (by omega))) (by first | decide | omega) rfl rfl (Nat.le_of_ble_eq_true rfl) (Nat.le_of_ble_eq_true rfl) (Nat.le_of_ble_eq_true rfl) 0 rfl rfl rfl rfl 107 rfl d_Mod_of_104 ?_
      exact r_iret rfl (Nat.zero_le _) (Nat.zero_le _) d_Mod_of_107 (by rw [← hQ]; exact ⟨_, by simp [ofP, h5, epN, mpN, h12_6], rfl, rfl⟩)
    by_cases h12_7 : w = 7
    · refine r_tableIn 108 d_Mod_of_12 (by rw [h12_7]; decide) (by rw [h12_7]; decide) (by rw [h12_7]; try rfl) rfl ?_
      refine r_aload_n rfl 109 rfl d_Mod_of_108 ?_
      refine r_iload_n rfl 110 rfl d_Mod_of_109 ?_
      refine r_callVAQ (st2 := []) (w2 := []) lk_Mod_gift ln_Mod_137 (c_Mod_gift X a ν σ τ hn6 pN (by omega)) (by first | decide | omega) rfl rfl (Nat.le_of_ble_eq_true rfl) (Nat.le_of_ble_eq_true rfl) (Nat.le_of_ble_eq_true rfl) 0 rfl rfl 113 rfl d_Mod_of_110 (fun vv ww hq => ?_)
      obtain ⟨r0, hr0, rfl, rfl⟩ := hq
      refine ⟨rfl, ?_⟩
      show Runs X 6 M_Mod_of 0 0 Q 113 [some (.ref (a 0)), some (.int (nI pN)), some (.int w)] [.int r0] 0 0 (MW X a ν σ τ)
      exact r_iret rfl (Nat.zero_le _) (Nat.zero_le _) d_Mod_of_113 (by rw [← hQ]; exact ⟨_, by simp only [ofP, if_pos h5, epN, if_neg h12_0, if_neg h12_1, if_neg h12_2, if_neg h12_3, if_neg h12_4, if_neg h12_5, if_neg h12_6, if_pos h12_7]; exact hr0, rfl, rfl⟩)
    have t12_0 : ¬ (w).toInt = 0 := lv_neT h12_0 (by decide)
    have t12_1 : ¬ (w).toInt = 1 := lv_neT h12_1 (by decide)
    have t12_2 : ¬ (w).toInt = 2 := lv_neT h12_2 (by decide)
    have t12_3 : ¬ (w).toInt = 3 := lv_neT h12_3 (by decide)
    have t12_4 : ¬ (w).toInt = 4 := lv_neT h12_4 (by decide)
    have t12_5 : ¬ (w).toInt = 5 := lv_neT h12_5 (by decide)
    have t12_6 : ¬ (w).toInt = 6 := lv_neT h12_6 (by decide)
    have t12_7 : ¬ (w).toInt = 7 := lv_neT h12_7 (by decide)
    refine r_tableOut 114 d_Mod_of_12 (by omega) rfl ?_
    refine r_ldc (v := (-1000001)) (inTB 1005 (by decide +kernel) rfl) 116 rfl d_Mod_of_114 ?_
    exact r_iret rfl (Nat.zero_le _) (Nat.zero_le _) d_Mod_of_116 (by rw [← hQ]; exact ⟨_, by simp [ofP, h5, epN, mpN, h12_0, h12_1, h12_2, h12_3, h12_4, h12_5, h12_6, h12_7], rfl, rfl⟩)
  · refine r_ldc (v := (-1000001)) (inTB 1005 (by decide +kernel) rfl) 10 rfl d_Mod_of_8 ?_
    exact r_iret rfl (Nat.zero_le _) (Nat.zero_le _) d_Mod_of_10 (by rw [← hQ]; exact ⟨_, by simp [ofP, h5], rfl, rfl⟩)
end
section
def M_Mod_tape : XM := (⟨"HandshakeBindsModel", "tape", "(III)I"⟩, prog_11_method_77_code, 5, (some .int))
theorem d_Mod_tape_0 : decode M_Mod_tape.2.1 0 = .ok (.iload_n 1, 1) := by decide +kernel
theorem d_Mod_tape_1 : decode M_Mod_tape.2.1 1 = .ok (.invokestatic 345, 3) := by decide +kernel
theorem d_Mod_tape_4 : decode M_Mod_tape.2.1 4 = .ok (.ifCond .ne 5, 3) := by decide +kernel
theorem d_Mod_tape_9 : decode M_Mod_tape.2.1 9 = .ok (.iload_n 2, 1) := by decide +kernel
theorem d_Mod_tape_10 : decode M_Mod_tape.2.1 10 = .ok (.iconst (-1), 1) := by decide +kernel
theorem d_Mod_tape_11 : decode M_Mod_tape.2.1 11 = .ok (.iconst 4, 1) := by decide +kernel
theorem d_Mod_tape_12 : decode M_Mod_tape.2.1 12 = .ok (.invokestatic 114, 3) := by decide +kernel
theorem d_Mod_tape_15 : decode M_Mod_tape.2.1 15 = .ok (.ifCond .eq 13, 3) := by decide +kernel
theorem d_Mod_tape_28 : decode M_Mod_tape.2.1 28 = .ok (.bipush (-2), 2) := by decide +kernel
theorem d_Mod_tape_30 : decode M_Mod_tape.2.1 30 = .ok (.ireturn, 1) := by decide +kernel
theorem d_Mod_tape_18 : decode M_Mod_tape.2.1 18 = .ok (.iload_n 2, 1) := by decide +kernel
theorem d_Mod_tape_19 : decode M_Mod_tape.2.1 19 = .ok (.ifCond .lt 12, 3) := by decide +kernel
theorem d_Mod_tape_31 : decode M_Mod_tape.2.1 31 = .ok (.iload_n 2, 1) := by decide +kernel
theorem d_Mod_tape_32 : decode M_Mod_tape.2.1 32 = .ok (.ifCond .lt 10, 3) := by decide +kernel
theorem d_Mod_tape_42 : decode M_Mod_tape.2.1 42 = .ok (.aload_n 0, 1) := by decide +kernel
theorem d_Mod_tape_43 : decode M_Mod_tape.2.1 43 = .ok (.getfield 97, 3) := by decide +kernel
theorem d_Mod_tape_46 : decode M_Mod_tape.2.1 46 = .ok (.iload_n 1, 1) := by decide +kernel
theorem d_Mod_tape_47 : decode M_Mod_tape.2.1 47 = .ok (.iload_n 2, 1) := by decide +kernel
theorem d_Mod_tape_48 : decode M_Mod_tape.2.1 48 = .ok (.iastore, 1) := by decide +kernel
theorem d_Mod_tape_49 : decode M_Mod_tape.2.1 49 = .ok (.aload_n 0, 1) := by decide +kernel
theorem d_Mod_tape_50 : decode M_Mod_tape.2.1 50 = .ok (.getfield 100, 3) := by decide +kernel
theorem d_Mod_tape_53 : decode M_Mod_tape.2.1 53 = .ok (.iload_n 1, 1) := by decide +kernel
theorem d_Mod_tape_54 : decode M_Mod_tape.2.1 54 = .ok (.iload_n 2, 1) := by decide +kernel
theorem d_Mod_tape_55 : decode M_Mod_tape.2.1 55 = .ok (.ifCond .ge 7, 3) := by decide +kernel
theorem d_Mod_tape_58 : decode M_Mod_tape.2.1 58 = .ok (.iconst 0, 1) := by decide +kernel
theorem d_Mod_tape_59 : decode M_Mod_tape.2.1 59 = .ok (.goto 4, 3) := by decide +kernel
theorem d_Mod_tape_63 : decode M_Mod_tape.2.1 63 = .ok (.iastore, 1) := by decide +kernel
theorem d_Mod_tape_64 : decode M_Mod_tape.2.1 64 = .ok (.iconst 0, 1) := by decide +kernel
theorem d_Mod_tape_65 : decode M_Mod_tape.2.1 65 = .ok (.istore 4, 2) := by decide +kernel
theorem d_Mod_tape_67 : decode M_Mod_tape.2.1 67 = .ok (.iload 4, 2) := by decide +kernel
theorem d_Mod_tape_69 : decode M_Mod_tape.2.1 69 = .ok (.bipush 60, 2) := by decide +kernel
theorem d_Mod_tape_71 : decode M_Mod_tape.2.1 71 = .ok (.if_icmp .ge 22, 3) := by decide +kernel
theorem d_Mod_tape_93 : decode M_Mod_tape.2.1 93 = .ok (.iconst 1, 1) := by decide +kernel
theorem d_Mod_tape_94 : decode M_Mod_tape.2.1 94 = .ok (.ireturn, 1) := by decide +kernel
theorem d_Mod_tape_74 : decode M_Mod_tape.2.1 74 = .ok (.aload_n 0, 1) := by decide +kernel
theorem d_Mod_tape_75 : decode M_Mod_tape.2.1 75 = .ok (.getfield 103, 3) := by decide +kernel
theorem d_Mod_tape_78 : decode M_Mod_tape.2.1 78 = .ok (.bipush 60, 2) := by decide +kernel
theorem d_Mod_tape_80 : decode M_Mod_tape.2.1 80 = .ok (.iload_n 1, 1) := by decide +kernel
theorem d_Mod_tape_81 : decode M_Mod_tape.2.1 81 = .ok (.imul, 1) := by decide +kernel
theorem d_Mod_tape_82 : decode M_Mod_tape.2.1 82 = .ok (.iload 4, 2) := by decide +kernel
theorem d_Mod_tape_84 : decode M_Mod_tape.2.1 84 = .ok (.iadd, 1) := by decide +kernel
theorem d_Mod_tape_85 : decode M_Mod_tape.2.1 85 = .ok (.lconst 0, 1) := by decide +kernel
theorem d_Mod_tape_86 : decode M_Mod_tape.2.1 86 = .ok (.lastore, 1) := by decide +kernel
theorem d_Mod_tape_87 : decode M_Mod_tape.2.1 87 = .ok (.iinc 4 1, 3) := by decide +kernel
theorem d_Mod_tape_90 : decode M_Mod_tape.2.1 90 = .ok (.goto (-23), 3) := by decide +kernel
theorem d_Mod_tape_22 : decode M_Mod_tape.2.1 22 = .ok (.iload_n 3, 1) := by decide +kernel
theorem d_Mod_tape_23 : decode M_Mod_tape.2.1 23 = .ok (.bipush 60, 2) := by decide +kernel
theorem d_Mod_tape_25 : decode M_Mod_tape.2.1 25 = .ok (.if_icmp .le 6, 3) := by decide +kernel
theorem d_Mod_tape_35 : decode M_Mod_tape.2.1 35 = .ok (.iload_n 3, 1) := by decide +kernel
theorem d_Mod_tape_36 : decode M_Mod_tape.2.1 36 = .ok (.ifCond .ge 6, 3) := by decide +kernel
theorem d_Mod_tape_62 : decode M_Mod_tape.2.1 62 = .ok (.iload_n 3, 1) := by decide +kernel
theorem d_Mod_tape_39 : decode M_Mod_tape.2.1 39 = .ok (.bipush (-14), 2) := by decide +kernel
theorem d_Mod_tape_41 : decode M_Mod_tape.2.1 41 = .ok (.ireturn, 1) := by decide +kernel
theorem d_Mod_tape_7 : decode M_Mod_tape.2.1 7 = .ok (.iconst (-1), 1) := by decide +kernel
theorem d_Mod_tape_8 : decode M_Mod_tape.2.1 8 = .ok (.ireturn, 1) := by decide +kernel
theorem c_Mod_tape (X : Xn) (a ν : Nat → Nat) (σ : Nat → Nat → Int32) (τ : Nat → Int64) (t s n : Int32) : Does X 4 M_Mod_tape [.ref (a 0), .int t, .int s, .int n] (MW X a ν σ τ) 0 0 (fun (vv : Option Value) (ww : va_W) => vv = some (.int (R_tape t s n)) ∧ ww = MW X a ν (if b_tape t s n = true then u2 (u2 σ 43 (upd (σ 43) (cn t) s)) 44 (upd (σ 44) (cn t) (if s < 0 then nI 0 else n)) else σ) (if b_tape t s n = true then zeroL τ (60 * cn t) 60 else τ)) := by
  generalize hQ : (fun (vv : Option Value) (ww : va_W) => vv = some (.int (R_tape t s n)) ∧ ww = MW X a ν (if b_tape t s n = true then u2 (u2 σ 43 (upd (σ 43) (cn t) s)) 44 (upd (σ 44) (cn t) (if s < 0 then nI 0 else n)) else σ) (if b_tape t s n = true then zeroL τ (60 * cn t) 60 else τ)) = Q
  refine Does.go rfl (Nat.le_of_ble_eq_true rfl) [some (.ref (a 0)), some (.int t), some (.int s), some (.int n), none] 1 rfl ?_
  refine r_iload_n rfl 1 rfl d_Mod_tape_0 ?_
  refine r_callS1 (st2 := [.int (bI (inR t (nI 0) (nI 5)))]) (w2 := MW X a ν σ τ) lk_Mod_isTape ln_Mod_345 (c_Mod_isTape X t) (by first | decide | omega) rfl rfl (Nat.le_of_ble_eq_true rfl) (Nat.le_of_ble_eq_true rfl) (Nat.le_of_ble_eq_true rfl) [] rfl rfl rfl rfl rfl 4 rfl d_Mod_tape_1 ?_
  refine r_if_neB 7 9 rfl rfl d_Mod_tape_4 (fun h4 => ?_) (fun h4 => ?_)
  · obtain ⟨tN, htN, rfl⟩ := inR_t (by decide) h4
    have etN : cn (nI tN) = tN := cn_nI (by omega)
    have mtN : ¬ nI tN = -1 := m1n (by omega)
    refine r_iload_n rfl 10 rfl d_Mod_tape_9 ?_
    refine r_iconst ((-1)) rfl 11 rfl d_Mod_tape_10 ?_
    refine r_iconst (nI 4) rfl 12 rfl d_Mod_tape_11 ?_
    refine r_callS1 (st2 := [.int (bI (inR s (-1) (nI 4)))]) (w2 := MW X a ν σ τ) lk_Mod_within ln_Mod_114 (c_Mod_within X s (-1) (nI 4)) (by first | decide | omega) rfl rfl (Nat.le_of_ble_eq_true rfl) (Nat.le_of_ble_eq_true rfl) (Nat.le_of_ble_eq_true rfl) [] rfl rfl rfl rfl rfl 15 rfl d_Mod_tape_12 ?_
    refine r_if_eqB 18 28 rfl rfl d_Mod_tape_15 (fun h15 => ?_) (fun h15 => ?_)
    · refine r_bipush ((-2)) rfl 30 rfl d_Mod_tape_28 ?_
      exact r_iret rfl (Nat.zero_le _) (Nat.zero_le _) d_Mod_tape_30 (by rw [← hQ]; exact ⟨by simp [R_tape, b_tape, h4, etN, mtN, h15], by simp [R_tape, b_tape, h4, etN, mtN, h15]⟩)
    · refine r_iload_n rfl 19 rfl d_Mod_tape_18 ?_
      refine r_if_lt 22 31 rfl rfl d_Mod_tape_19 (fun h19 => ?_) (fun h19 => ?_)
      · refine r_iload_n rfl 32 rfl d_Mod_tape_31 ?_
        refine r_if_lt_t 42 rfl d_Mod_tape_32 (h19) ?_
        refine r_aload_n rfl 43 rfl d_Mod_tape_42 ?_
        refine r_getf (v := .ref (a 43)) gf_Mod_97 0 rfl rfl 46 rfl d_Mod_tape_43 ?_
        refine r_iload_n rfl 47 rfl d_Mod_tape_46 ?_
        refine r_iload_n rfl 48 rfl d_Mod_tape_47 ?_
        refine r_iast (w2 := MW X a ν (u2 σ 43 (upd (σ 43) tN s)) τ) 29 rfl tN rfl (by omega) (by omega) rfl 49 rfl d_Mod_tape_48 ?_
        refine r_aload_n rfl 50 rfl d_Mod_tape_49 ?_
        refine r_getf (v := .ref (a 44)) gf_Mod_100 0 rfl rfl 53 rfl d_Mod_tape_50 ?_
        refine r_iload_n rfl 54 rfl d_Mod_tape_53 ?_
        refine r_iload_n rfl 55 rfl d_Mod_tape_54 ?_
        refine r_if_ge_f 58 rfl 62 rfl d_Mod_tape_55 (Int32.not_le.mpr h19) ?_
        refine r_iconst (nI 0) rfl 59 rfl d_Mod_tape_58 ?_
        refine r_goto 63 rfl d_Mod_tape_59 ?_
        refine r_iast (w2 := MW X a ν (u2 (u2 σ 43 (upd (σ 43) tN s)) 44 (upd (σ 44) tN (nI 0))) τ) 30 rfl tN rfl (by omega) (by omega) rfl 64 rfl d_Mod_tape_63 ?_
        refine r_iconst (nI 0) rfl 65 rfl d_Mod_tape_64 ?_
        refine r_istore (ls2 := [some (.ref (a 0)), some (.int (nI tN)), some (.int s), some (.int n), some (.int (nI 0))]) 67 rfl d_Mod_tape_65 (by decide) rfl rfl ?_
        have L67_1 : ∀ (f : Nat) (k : Nat), (k ≤ 60) → 60 - k < f → Runs X 4 M_Mod_tape 0 0 Q 67 [some (.ref (a 0)), some (.int (nI tN)), some (.int s), some (.int n), some (.int (nI k))] [] 0 0 (MW X a ν (u2 (u2 σ 43 (upd (σ 43) tN s)) 44 (upd (σ 44) tN (nI 0))) (zeroL τ (60 * tN) k)) := by
          intro f
          induction f with
          | zero => intro k hk hmu; exact absurd hmu (Nat.not_lt_zero _)
          | succ f ih2 =>
            intro k hk hmu
            refine r_iload rfl 69 rfl d_Mod_tape_67 ?_
            refine r_bipush (nI 60) rfl 71 rfl d_Mod_tape_69 ?_
            refine r_icmp_geN k 60 (by omega) (by omega) 74 93 rfl rfl d_Mod_tape_71 (fun h71 => ?_) (fun h71 => ?_)
            · have n71 := Nat.not_lt.mpr h71
              refine r_iconst (nI 1) rfl 94 rfl d_Mod_tape_93 ?_
              exact r_iret rfl (Nat.zero_le _) (Nat.zero_le _) d_Mod_tape_94 (by rw [← hQ]; rw [show k = 60 by omega]; exact ⟨by simp [R_tape, b_tape, h4, etN, mtN, h15, h19, h71, n71], by simp [R_tape, b_tape, h4, etN, mtN, h15, h19, h71, n71]⟩)
            · have n71 := Nat.not_le.mpr h71
              refine r_aload_n rfl 75 rfl d_Mod_tape_74 ?_
              refine r_getf (v := .ref (a 45)) gf_Mod_103 0 rfl rfl 78 rfl d_Mod_tape_75 ?_
              refine r_bipush (nI 60) rfl 80 rfl d_Mod_tape_78 ?_
              refine r_iload_n rfl 81 rfl d_Mod_tape_80 ?_
              refine r_imul 82 rfl d_Mod_tape_81 ?_
              refine r_topi (nI (60 * tN)) (pk_mul _ _) ?_
              refine r_iload rfl 84 rfl d_Mod_tape_82 ?_
              refine r_iadd 85 rfl d_Mod_tape_84 ?_
              refine r_topi (nI ((60 * tN) + k)) (nI_add _ _) ?_
              refine r_lconst 0 rfl 86 rfl d_Mod_tape_85 ?_
              refine r_last (w2 := MW X a ν (u2 (u2 σ 43 (upd (σ 43) tN s)) 44 (upd (σ 44) tN (nI 0))) (vp_updL (zeroL τ (60 * tN) k) ((60 * tN) + k) 0)) 31 rfl ((60 * tN) + k) rfl (by omega) (by omega) rfl 87 rfl d_Mod_tape_86 ?_
              refine r_iinc (ls2 := [some (.ref (a 0)), some (.int (nI tN)), some (.int s), some (.int n), some (.int (nI (k + 1)))]) (nI (k + 1)) rfl (nI_1 _) 90 rfl d_Mod_tape_87 (by decide) rfl rfl ?_
              refine r_goto 67 rfl d_Mod_tape_90 ?_
              exact ih2 (k + 1) (by omega) (by omega)
        exact L67_1 _ 0 (Nat.zero_le _) (Nat.lt_succ_self _)
      · refine r_iload_n rfl 23 rfl d_Mod_tape_22 ?_
        refine r_bipush (nI 60) rfl 25 rfl d_Mod_tape_23 ?_
        refine r_icmp_le 28 31 rfl rfl d_Mod_tape_25 (fun h25 => ?_) (fun h25 => ?_)
        · refine r_iload_n rfl 32 rfl d_Mod_tape_31 ?_
          refine r_if_lt_f 35 rfl 42 rfl d_Mod_tape_32 (h19) ?_
          refine r_iload_n rfl 36 rfl d_Mod_tape_35 ?_
          refine r_if_ge 39 42 rfl rfl d_Mod_tape_36 (fun h36 => ?_) (fun h36 => ?_)
          · refine r_aload_n rfl 43 rfl d_Mod_tape_42 ?_
            refine r_getf (v := .ref (a 43)) gf_Mod_97 0 rfl rfl 46 rfl d_Mod_tape_43 ?_
            refine r_iload_n rfl 47 rfl d_Mod_tape_46 ?_
            refine r_iload_n rfl 48 rfl d_Mod_tape_47 ?_
            refine r_iast (w2 := MW X a ν (u2 σ 43 (upd (σ 43) tN s)) τ) 29 rfl tN rfl (by omega) (by omega) rfl 49 rfl d_Mod_tape_48 ?_
            refine r_aload_n rfl 50 rfl d_Mod_tape_49 ?_
            refine r_getf (v := .ref (a 44)) gf_Mod_100 0 rfl rfl 53 rfl d_Mod_tape_50 ?_
            refine r_iload_n rfl 54 rfl d_Mod_tape_53 ?_
            refine r_iload_n rfl 55 rfl d_Mod_tape_54 ?_
            refine r_if_ge_t 62 rfl d_Mod_tape_55 (Int32.not_lt.mp h19) ?_
            refine r_iload_n rfl 63 rfl d_Mod_tape_62 ?_
            refine r_iast (w2 := MW X a ν (u2 (u2 σ 43 (upd (σ 43) tN s)) 44 (upd (σ 44) tN n)) τ) 30 rfl tN rfl (by omega) (by omega) rfl 64 rfl d_Mod_tape_63 ?_
            refine r_iconst (nI 0) rfl 65 rfl d_Mod_tape_64 ?_
            refine r_istore (ls2 := [some (.ref (a 0)), some (.int (nI tN)), some (.int s), some (.int n), some (.int (nI 0))]) 67 rfl d_Mod_tape_65 (by decide) rfl rfl ?_
            have L67_3 : ∀ (f : Nat) (k : Nat), (k ≤ 60) → 60 - k < f → Runs X 4 M_Mod_tape 0 0 Q 67 [some (.ref (a 0)), some (.int (nI tN)), some (.int s), some (.int n), some (.int (nI k))] [] 0 0 (MW X a ν (u2 (u2 σ 43 (upd (σ 43) tN s)) 44 (upd (σ 44) tN (n))) (zeroL τ (60 * tN) k)) := by
              intro f
              induction f with
              | zero => intro k hk hmu; exact absurd hmu (Nat.not_lt_zero _)
              | succ f ih4 =>
                intro k hk hmu
                refine r_iload rfl 69 rfl d_Mod_tape_67 ?_
                refine r_bipush (nI 60) rfl 71 rfl d_Mod_tape_69 ?_
                refine r_icmp_geN k 60 (by omega) (by omega) 74 93 rfl rfl d_Mod_tape_71 (fun h71 => ?_) (fun h71 => ?_)
                · have n71 := Nat.not_lt.mpr h71
                  refine r_iconst (nI 1) rfl 94 rfl d_Mod_tape_93 ?_
                  exact r_iret rfl (Nat.zero_le _) (Nat.zero_le _) d_Mod_tape_94 (by rw [← hQ]; rw [show k = 60 by omega]; exact ⟨by simp [R_tape, b_tape, h4, etN, mtN, h15, h19, h25, h36, h71, n71], by simp [R_tape, b_tape, h4, etN, mtN, h15, h19, h25, h36, h71, n71]⟩)
                · have n71 := Nat.not_le.mpr h71
                  refine r_aload_n rfl 75 rfl d_Mod_tape_74 ?_
                  refine r_getf (v := .ref (a 45)) gf_Mod_103 0 rfl rfl 78 rfl d_Mod_tape_75 ?_
                  refine r_bipush (nI 60) rfl 80 rfl d_Mod_tape_78 ?_
                  refine r_iload_n rfl 81 rfl d_Mod_tape_80 ?_
                  refine r_imul 82 rfl d_Mod_tape_81 ?_
                  refine r_topi (nI (60 * tN)) (pk_mul _ _) ?_
                  refine r_iload rfl 84 rfl d_Mod_tape_82 ?_
                  refine r_iadd 85 rfl d_Mod_tape_84 ?_
                  refine r_topi (nI ((60 * tN) + k)) (nI_add _ _) ?_
                  refine r_lconst 0 rfl 86 rfl d_Mod_tape_85 ?_
                  refine r_last (w2 := MW X a ν (u2 (u2 σ 43 (upd (σ 43) tN s)) 44 (upd (σ 44) tN (n))) (vp_updL (zeroL τ (60 * tN) k) ((60 * tN) + k) 0)) 31 rfl ((60 * tN) + k) rfl (by omega) (by omega) rfl 87 rfl d_Mod_tape_86 ?_
                  refine r_iinc (ls2 := [some (.ref (a 0)), some (.int (nI tN)), some (.int s), some (.int n), some (.int (nI (k + 1)))]) (nI (k + 1)) rfl (nI_1 _) 90 rfl d_Mod_tape_87 (by decide) rfl rfl ?_
                  refine r_goto 67 rfl d_Mod_tape_90 ?_
                  exact ih4 (k + 1) (by omega) (by omega)
            exact L67_3 _ 0 (Nat.zero_le _) (Nat.lt_succ_self _)
          · have h36b := Int32.not_le.mp h36
            refine r_bipush ((-14)) rfl 41 rfl d_Mod_tape_39 ?_
            exact r_iret rfl (Nat.zero_le _) (Nat.zero_le _) d_Mod_tape_41 (by rw [← hQ]; exact ⟨by simp [R_tape, b_tape, h4, etN, mtN, h15, h19, h25, h36, h36b], by simp [R_tape, b_tape, h4, etN, mtN, h15, h19, h25, h36, h36b]⟩)
        · have h25b := Int32.not_le.mp h25
          refine r_bipush ((-2)) rfl 30 rfl d_Mod_tape_28 ?_
          exact r_iret rfl (Nat.zero_le _) (Nat.zero_le _) d_Mod_tape_30 (by rw [← hQ]; exact ⟨by simp [R_tape, b_tape, h4, etN, mtN, h15, h19, h25, h25b], by simp [R_tape, b_tape, h4, etN, mtN, h15, h19, h25, h25b]⟩)
  · refine r_iconst ((-1)) rfl 8 rfl d_Mod_tape_7 ?_
    exact r_iret rfl (Nat.zero_le _) (Nat.zero_le _) d_Mod_tape_8 (by rw [← hQ]; exact ⟨by simp [R_tape, b_tape, h4], by simp [R_tape, b_tape, h4]⟩)
end
section
/-! LOOKED, ENDS, SHIFT -/
theorem lookF_s {de a b c : Nat → Int32} {m i : Nat} (h : i < m) : lookF de a b c m (m - i) = if de (6 * cn (a i) + cn (b i)) = c i then lookF de a b c m (m - (i + 1)) else nI i := by
  rw [show m - i = (m - (i + 1)) + 1 by omega, lookF, show m - (m - (i + 1) + 1) = i by omega]
theorem judF_s {n : Nat} {de : Nat → Int32} {so z : Int32} {τ : Nat → Int64} {b : Nat} {i : Int32} {k : Nat} (h : k < n) : judF n de so z τ b i (n - k) = if so = -1 ∨ i < 0 ∨ cn z ≤ cn i + k then nI (100 + k) else if τ (b + cn i + k) = (bal n de k).toInt64 then judF n de so z τ b i (n - (k + 1)) else nI k := by
  rw [show n - k = (n - (k + 1)) + 1 by omega, judF, show n - (n - (k + 1) + 1) = k by omega]
theorem pay_w {σ : Nat → Nat → Int32} {A B A1 B1 A2 : Nat → Int32} : u2 (u2 (u2 (u2 (u2 σ 3 A) 5 B) 3 A1) 5 B1) 3 A2 = u2 (u2 σ 3 A2) 5 B1 := by
  funext c; simp only [u2]; (repeat' split) <;> first | rfl | omega
theorem pay_0 {σ : Nat → Nat → Int32} : u2 (u2 σ 3 (σ 3)) 5 (σ 5) = σ := by
  funext c; simp only [u2]; (repeat' split) <;> first | rfl | (rename_i h; rw [h]) | omega
theorem u2_552 {σ : Nat → Nat → Int32} {A B B2 : Nat → Int32} : u2 (u2 (u2 σ 3 A) 5 B) 5 B2 = u2 (u2 σ 3 A) 5 B2 := u2_u2
theorem pays_again {σ : Nat → Nat → Int32} {A B A2 B2 : Nat → Int32} : u2 (u2 (u2 (u2 σ 3 A) 5 B) 3 A2) 5 B2 = u2 (u2 σ 3 A2) 5 B2 := by
  funext c; simp only [u2]; (repeat' split) <;> first | rfl | omega
theorem u1_same6 (ν : Nat → Nat) (x : Nat) : u1 (u1 (u1 (u1 (u1 (u1 ν 6 x) 0 (ν 0)) 6 (ν 6)) 23 (ν 23)) 29 (ν 29)) 32 (ν 32) = ν := by
  funext c; simp only [u1]; (repeat' split) <;> first | rfl | (rename_i h; rw [h]) | omega
theorem paysN_out {p : Nat} (hp : p < 6) {s : (Nat → Int32) × (Nat → Int32)} : ∀ k, k ≤ 6 → (∀ j, 6 ≤ j → (paysN p s k).1 j = s.1 j) ∧ ∀ j, 36 ≤ j → (paysN p s k).2 j = s.2 j := by
  intro k
  induction k with
  | zero => intro _; exact ⟨fun _ _ => rfl, fun _ _ => rfl⟩
  | succ k ih =>
    intro hk
    obtain ⟨h1, h2⟩ := ih (by omega)
    refine ⟨fun j hj => ?_, fun j hj => ?_⟩
    · simp only [paysN, payS]; rw [pk_un (by omega), pk_un (by omega)]; exact h1 j hj
    · simp only [paysN, payS]; rw [pk_un (by omega)]; exact h2 j hj
theorem z2_out {de : Nat → Int32} {p : Nat} (hp : p < 6) : ∀ k, k ≤ 6 → ∀ j, 36 ≤ j → z2 de p k j = de j := by
  intro k
  induction k with
  | zero => intro _ _ _; rfl
  | succ k ih => intro hk j hj; simp only [z2]; rw [pk_un (by omega)]; exact ih (by omega) j hj
theorem z3_out {de : Nat → Int32} {p : Nat} (hp : p < 6) : ∀ k, k ≤ 6 → ∀ j, 36 ≤ j → z3 de p k j = de j := by
  intro k
  induction k with
  | zero => intro _ _ _; rfl
  | succ k ih => intro hk j hj; simp only [z3]; rw [pk_un (by omega)]; exact ih (by omega) j hj
theorem planS_out {n w p : Nat} (hn : n ≤ 6) (hp : p < 6) {s : (Nat → Int32) × (Nat → Int32)} : (∀ j, 6 ≤ j → (planS n w p s).1 j = s.1 j) ∧ ∀ j, 36 ≤ j → (planS n w p s).2 j = s.2 j := by
  unfold planS
  split
  · exact ⟨fun _ _ => rfl, fun _ _ => rfl⟩
  · split
    · exact paysN_out hp n hn
    · split
      · exact ⟨fun _ _ => rfl, z2_out hp n hn⟩
      · exact ⟨fun _ _ => rfl, z3_out hp n hn⟩
theorem planN_out {n : Nat} (hn : n ≤ 6) {go wh : Nat → Int32} {s : (Nat → Int32) × (Nat → Int32)} : ∀ m, (∀ i, i < m → cn (wh i) < 6) → (∀ j, 6 ≤ j → (planN n go wh s m).1 j = s.1 j) ∧ ∀ j, 36 ≤ j → (planN n go wh s m).2 j = s.2 j := by
  intro m
  induction m with
  | zero => intro _; exact ⟨fun _ _ => rfl, fun _ _ => rfl⟩
  | succ m ih =>
    intro h
    obtain ⟨h1, h2⟩ := ih (fun i hi => h i (by omega))
    obtain ⟨h3, h4⟩ := planS_out (w := cn (go m)) hn (h m (by omega)) (s := planN n go wh s m)
    exact ⟨fun j hj => (h3 j hj).trans (h1 j hj), fun j hj => (h4 j hj).trans (h2 j hj)⟩
theorem planN_s {n : Nat} {go wh : Nat → Int32} {s : (Nat → Int32) × (Nat → Int32)} {i w p : Nat} (h1 : go i = nI w) (h2 : wh i = nI p) (hw : w < 2 ^ 31) (hp : p < 2 ^ 31) : planN n go wh s (i + 1) = planS n w p (planN n go wh s i) := by
  rw [planN, h1, h2, cn_nI hw, cn_nI hp]
end
section
def M_Mod_looked : XM := (⟨"HandshakeBindsModel", "looked", "()I"⟩, prog_11_method_61_code, 2, (some .int))
theorem d_Mod_looked_0 : decode M_Mod_looked.2.1 0 = .ok (.iconst 0, 1) := by decide +kernel
theorem d_Mod_looked_1 : decode M_Mod_looked.2.1 1 = .ok (.istore_n 1, 1) := by decide +kernel
theorem d_Mod_looked_2 : decode M_Mod_looked.2.1 2 = .ok (.iload_n 1, 1) := by decide +kernel
theorem d_Mod_looked_3 : decode M_Mod_looked.2.1 3 = .ok (.aload_n 0, 1) := by decide +kernel
theorem d_Mod_looked_4 : decode M_Mod_looked.2.1 4 = .ok (.getfield 319, 3) := by decide +kernel
theorem d_Mod_looked_7 : decode M_Mod_looked.2.1 7 = .ok (.if_icmp .ge 41, 3) := by decide +kernel
theorem d_Mod_looked_48 : decode M_Mod_looked.2.1 48 = .ok (.bipush (-5), 2) := by decide +kernel
theorem d_Mod_looked_50 : decode M_Mod_looked.2.1 50 = .ok (.ireturn, 1) := by decide +kernel
theorem d_Mod_looked_10 : decode M_Mod_looked.2.1 10 = .ok (.aload_n 0, 1) := by decide +kernel
theorem d_Mod_looked_11 : decode M_Mod_looked.2.1 11 = .ok (.getfield 24, 3) := by decide +kernel
theorem d_Mod_looked_14 : decode M_Mod_looked.2.1 14 = .ok (.bipush 6, 2) := by decide +kernel
theorem d_Mod_looked_16 : decode M_Mod_looked.2.1 16 = .ok (.aload_n 0, 1) := by decide +kernel
theorem d_Mod_looked_17 : decode M_Mod_looked.2.1 17 = .ok (.getfield 73, 3) := by decide +kernel
theorem d_Mod_looked_20 : decode M_Mod_looked.2.1 20 = .ok (.iload_n 1, 1) := by decide +kernel
theorem d_Mod_looked_21 : decode M_Mod_looked.2.1 21 = .ok (.iaload, 1) := by decide +kernel
theorem d_Mod_looked_22 : decode M_Mod_looked.2.1 22 = .ok (.imul, 1) := by decide +kernel
theorem d_Mod_looked_23 : decode M_Mod_looked.2.1 23 = .ok (.aload_n 0, 1) := by decide +kernel
theorem d_Mod_looked_24 : decode M_Mod_looked.2.1 24 = .ok (.getfield 76, 3) := by decide +kernel
theorem d_Mod_looked_27 : decode M_Mod_looked.2.1 27 = .ok (.iload_n 1, 1) := by decide +kernel
theorem d_Mod_looked_28 : decode M_Mod_looked.2.1 28 = .ok (.iaload, 1) := by decide +kernel
theorem d_Mod_looked_29 : decode M_Mod_looked.2.1 29 = .ok (.iadd, 1) := by decide +kernel
theorem d_Mod_looked_30 : decode M_Mod_looked.2.1 30 = .ok (.iaload, 1) := by decide +kernel
theorem d_Mod_looked_31 : decode M_Mod_looked.2.1 31 = .ok (.aload_n 0, 1) := by decide +kernel
theorem d_Mod_looked_32 : decode M_Mod_looked.2.1 32 = .ok (.getfield 79, 3) := by decide +kernel
theorem d_Mod_looked_35 : decode M_Mod_looked.2.1 35 = .ok (.iload_n 1, 1) := by decide +kernel
theorem d_Mod_looked_36 : decode M_Mod_looked.2.1 36 = .ok (.iaload, 1) := by decide +kernel
theorem d_Mod_looked_37 : decode M_Mod_looked.2.1 37 = .ok (.if_icmp .eq 5, 3) := by decide +kernel
theorem d_Mod_looked_42 : decode M_Mod_looked.2.1 42 = .ok (.iinc 1 1, 3) := by decide +kernel
theorem d_Mod_looked_45 : decode M_Mod_looked.2.1 45 = .ok (.goto (-43), 3) := by decide +kernel
theorem d_Mod_looked_40 : decode M_Mod_looked.2.1 40 = .ok (.iload_n 1, 1) := by decide +kernel
theorem d_Mod_looked_41 : decode M_Mod_looked.2.1 41 = .ok (.ireturn, 1) := by decide +kernel
def M_Mod_part : XM := (⟨"HandshakeBindsModel", "part", "(III)J"⟩, prog_11_method_54_code, 6, (some .long))
theorem d_Mod_part_0 : decode M_Mod_part.2.1 0 = .ok (.iload_n 0, 1) := by decide +kernel
theorem d_Mod_part_1 : decode M_Mod_part.2.1 1 = .ok (.istore_n 3, 1) := by decide +kernel
theorem d_Mod_part_2 : decode M_Mod_part.2.1 2 = .ok (.iload_n 1, 1) := by decide +kernel
theorem d_Mod_part_3 : decode M_Mod_part.2.1 3 = .ok (.istore 4, 2) := by decide +kernel
theorem d_Mod_part_5 : decode M_Mod_part.2.1 5 = .ok (.iload 4, 2) := by decide +kernel
theorem d_Mod_part_7 : decode M_Mod_part.2.1 7 = .ok (.ifCond .eq 19, 3) := by decide +kernel
theorem d_Mod_part_26 : decode M_Mod_part.2.1 26 = .ok (.iload_n 2, 1) := by decide +kernel
theorem d_Mod_part_27 : decode M_Mod_part.2.1 27 = .ok (.ifCond .ne 10, 3) := by decide +kernel
theorem d_Mod_part_37 : decode M_Mod_part.2.1 37 = .ok (.iload_n 1, 1) := by decide +kernel
theorem d_Mod_part_38 : decode M_Mod_part.2.1 38 = .ok (.iload_n 3, 1) := by decide +kernel
theorem d_Mod_part_39 : decode M_Mod_part.2.1 39 = .ok (.idiv, 1) := by decide +kernel
theorem d_Mod_part_40 : decode M_Mod_part.2.1 40 = .ok (.i2l, 1) := by decide +kernel
theorem d_Mod_part_41 : decode M_Mod_part.2.1 41 = .ok (.lreturn, 1) := by decide +kernel
theorem d_Mod_part_30 : decode M_Mod_part.2.1 30 = .ok (.iload_n 0, 1) := by decide +kernel
theorem d_Mod_part_31 : decode M_Mod_part.2.1 31 = .ok (.iload_n 3, 1) := by decide +kernel
theorem d_Mod_part_32 : decode M_Mod_part.2.1 32 = .ok (.idiv, 1) := by decide +kernel
theorem d_Mod_part_33 : decode M_Mod_part.2.1 33 = .ok (.i2l, 1) := by decide +kernel
theorem d_Mod_part_34 : decode M_Mod_part.2.1 34 = .ok (.goto 7, 3) := by decide +kernel
theorem d_Mod_part_10 : decode M_Mod_part.2.1 10 = .ok (.iload_n 3, 1) := by decide +kernel
theorem d_Mod_part_11 : decode M_Mod_part.2.1 11 = .ok (.iload 4, 2) := by decide +kernel
theorem d_Mod_part_13 : decode M_Mod_part.2.1 13 = .ok (.irem, 1) := by decide +kernel
theorem d_Mod_part_14 : decode M_Mod_part.2.1 14 = .ok (.istore 5, 2) := by decide +kernel
theorem d_Mod_part_16 : decode M_Mod_part.2.1 16 = .ok (.iload 4, 2) := by decide +kernel
theorem d_Mod_part_18 : decode M_Mod_part.2.1 18 = .ok (.istore_n 3, 1) := by decide +kernel
theorem d_Mod_part_19 : decode M_Mod_part.2.1 19 = .ok (.iload 5, 2) := by decide +kernel
theorem d_Mod_part_21 : decode M_Mod_part.2.1 21 = .ok (.istore 4, 2) := by decide +kernel
theorem d_Mod_part_23 : decode M_Mod_part.2.1 23 = .ok (.goto (-18), 3) := by decide +kernel
def M_Mod_odds : XM := (⟨"HandshakeBindsModel", "odds", "(I)J"⟩, prog_11_method_55_code, 4, (some .long))
theorem d_Mod_odds_0 : decode M_Mod_odds.2.1 0 = .ok (.iload_n 1, 1) := by decide +kernel
theorem d_Mod_odds_1 : decode M_Mod_odds.2.1 1 = .ok (.iconst 0, 1) := by decide +kernel
theorem d_Mod_odds_2 : decode M_Mod_odds.2.1 2 = .ok (.iconst 1, 1) := by decide +kernel
theorem d_Mod_odds_3 : decode M_Mod_odds.2.1 3 = .ok (.invokestatic 114, 3) := by decide +kernel
theorem d_Mod_odds_6 : decode M_Mod_odds.2.1 6 = .ok (.ifCond .eq 10, 3) := by decide +kernel
theorem d_Mod_odds_16 : decode M_Mod_odds.2.1 16 = .ok (.ldc2_w 306, 3) := by decide +kernel
theorem d_Mod_odds_19 : decode M_Mod_odds.2.1 19 = .ok (.lreturn, 1) := by decide +kernel
theorem d_Mod_odds_9 : decode M_Mod_odds.2.1 9 = .ok (.aload_n 0, 1) := by decide +kernel
theorem d_Mod_odds_10 : decode M_Mod_odds.2.1 10 = .ok (.getfield 111, 3) := by decide +kernel
theorem d_Mod_odds_13 : decode M_Mod_odds.2.1 13 = .ok (.ifCond .ne 7, 3) := by decide +kernel
theorem d_Mod_odds_20 : decode M_Mod_odds.2.1 20 = .ok (.iconst 0, 1) := by decide +kernel
theorem d_Mod_odds_21 : decode M_Mod_odds.2.1 21 = .ok (.istore_n 2, 1) := by decide +kernel
theorem d_Mod_odds_22 : decode M_Mod_odds.2.1 22 = .ok (.iconst 0, 1) := by decide +kernel
theorem d_Mod_odds_23 : decode M_Mod_odds.2.1 23 = .ok (.istore_n 3, 1) := by decide +kernel
theorem d_Mod_odds_24 : decode M_Mod_odds.2.1 24 = .ok (.iload_n 3, 1) := by decide +kernel
theorem d_Mod_odds_25 : decode M_Mod_odds.2.1 25 = .ok (.aload_n 0, 1) := by decide +kernel
theorem d_Mod_odds_26 : decode M_Mod_odds.2.1 26 = .ok (.getfield 111, 3) := by decide +kernel
theorem d_Mod_odds_29 : decode M_Mod_odds.2.1 29 = .ok (.if_icmp .ge 25, 3) := by decide +kernel
theorem d_Mod_odds_54 : decode M_Mod_odds.2.1 54 = .ok (.iload_n 2, 1) := by decide +kernel
theorem d_Mod_odds_55 : decode M_Mod_odds.2.1 55 = .ok (.aload_n 0, 1) := by decide +kernel
theorem d_Mod_odds_56 : decode M_Mod_odds.2.1 56 = .ok (.getfield 111, 3) := by decide +kernel
theorem d_Mod_odds_59 : decode M_Mod_odds.2.1 59 = .ok (.iload_n 1, 1) := by decide +kernel
theorem d_Mod_odds_60 : decode M_Mod_odds.2.1 60 = .ok (.invokestatic 308, 3) := by decide +kernel
theorem ln_Mod_308 : Cond.methodLink "HandshakeBindsModel" 308 M_Mod_part.1 ∈ TB := inTB 1282 (by decide +kernel) rfl
theorem lk_Mod_part : LSt M_Mod_part 3 := ⟨⟨inTB 72 (by decide +kernel) rfl, inTB 1284 (by decide +kernel) rfl, ⟨by decide, by decide, by decide +kernel⟩, by decide⟩, inTB 1283 (by decide +kernel) rfl⟩
theorem d_Mod_odds_63 : decode M_Mod_odds.2.1 63 = .ok (.lreturn, 1) := by decide +kernel
theorem d_Mod_odds_32 : decode M_Mod_odds.2.1 32 = .ok (.aload_n 0, 1) := by decide +kernel
theorem d_Mod_odds_33 : decode M_Mod_odds.2.1 33 = .ok (.iconst 1, 1) := by decide +kernel
theorem d_Mod_odds_34 : decode M_Mod_odds.2.1 34 = .ok (.iload_n 3, 1) := by decide +kernel
theorem d_Mod_odds_35 : decode M_Mod_odds.2.1 35 = .ok (.ishl, 1) := by decide +kernel
theorem d_Mod_odds_36 : decode M_Mod_odds.2.1 36 = .ok (.invokevirtual 134, 3) := by decide +kernel
theorem d_Mod_odds_39 : decode M_Mod_odds.2.1 39 = .ok (.iconst 1, 1) := by decide +kernel
theorem d_Mod_odds_40 : decode M_Mod_odds.2.1 40 = .ok (.iload_n 3, 1) := by decide +kernel
theorem d_Mod_odds_41 : decode M_Mod_odds.2.1 41 = .ok (.ishl, 1) := by decide +kernel
theorem d_Mod_odds_42 : decode M_Mod_odds.2.1 42 = .ok (.if_icmp .ne 6, 3) := by decide +kernel
theorem d_Mod_odds_48 : decode M_Mod_odds.2.1 48 = .ok (.iinc 3 1, 3) := by decide +kernel
theorem d_Mod_odds_51 : decode M_Mod_odds.2.1 51 = .ok (.goto (-27), 3) := by decide +kernel
theorem d_Mod_odds_45 : decode M_Mod_odds.2.1 45 = .ok (.iinc 2 1, 3) := by decide +kernel
def M_Mod_mean : XM := (⟨"HandshakeBindsModel", "mean", "(I)J"⟩, prog_11_method_56_code, 4, (some .long))
theorem d_Mod_mean_0 : decode M_Mod_mean.2.1 0 = .ok (.iload_n 1, 1) := by decide +kernel
theorem d_Mod_mean_1 : decode M_Mod_mean.2.1 1 = .ok (.iconst 0, 1) := by decide +kernel
theorem d_Mod_mean_2 : decode M_Mod_mean.2.1 2 = .ok (.iconst 1, 1) := by decide +kernel
theorem d_Mod_mean_3 : decode M_Mod_mean.2.1 3 = .ok (.invokestatic 114, 3) := by decide +kernel
theorem d_Mod_mean_6 : decode M_Mod_mean.2.1 6 = .ok (.ifCond .eq 10, 3) := by decide +kernel
theorem d_Mod_mean_16 : decode M_Mod_mean.2.1 16 = .ok (.ldc2_w 306, 3) := by decide +kernel
theorem d_Mod_mean_19 : decode M_Mod_mean.2.1 19 = .ok (.lreturn, 1) := by decide +kernel
theorem d_Mod_mean_9 : decode M_Mod_mean.2.1 9 = .ok (.aload_n 0, 1) := by decide +kernel
theorem d_Mod_mean_10 : decode M_Mod_mean.2.1 10 = .ok (.getfield 111, 3) := by decide +kernel
theorem d_Mod_mean_13 : decode M_Mod_mean.2.1 13 = .ok (.ifCond .ne 7, 3) := by decide +kernel
theorem d_Mod_mean_20 : decode M_Mod_mean.2.1 20 = .ok (.iconst 0, 1) := by decide +kernel
theorem d_Mod_mean_21 : decode M_Mod_mean.2.1 21 = .ok (.istore_n 2, 1) := by decide +kernel
theorem d_Mod_mean_22 : decode M_Mod_mean.2.1 22 = .ok (.iconst 0, 1) := by decide +kernel
theorem d_Mod_mean_23 : decode M_Mod_mean.2.1 23 = .ok (.istore_n 3, 1) := by decide +kernel
theorem d_Mod_mean_24 : decode M_Mod_mean.2.1 24 = .ok (.iload_n 3, 1) := by decide +kernel
theorem d_Mod_mean_25 : decode M_Mod_mean.2.1 25 = .ok (.aload_n 0, 1) := by decide +kernel
theorem d_Mod_mean_26 : decode M_Mod_mean.2.1 26 = .ok (.getfield 111, 3) := by decide +kernel
theorem d_Mod_mean_29 : decode M_Mod_mean.2.1 29 = .ok (.if_icmp .ge 18, 3) := by decide +kernel
theorem d_Mod_mean_47 : decode M_Mod_mean.2.1 47 = .ok (.iload_n 2, 1) := by decide +kernel
theorem d_Mod_mean_48 : decode M_Mod_mean.2.1 48 = .ok (.aload_n 0, 1) := by decide +kernel
theorem d_Mod_mean_49 : decode M_Mod_mean.2.1 49 = .ok (.getfield 111, 3) := by decide +kernel
theorem d_Mod_mean_52 : decode M_Mod_mean.2.1 52 = .ok (.iload_n 1, 1) := by decide +kernel
theorem d_Mod_mean_53 : decode M_Mod_mean.2.1 53 = .ok (.invokestatic 308, 3) := by decide +kernel
theorem d_Mod_mean_56 : decode M_Mod_mean.2.1 56 = .ok (.lreturn, 1) := by decide +kernel
theorem d_Mod_mean_32 : decode M_Mod_mean.2.1 32 = .ok (.iload_n 2, 1) := by decide +kernel
theorem d_Mod_mean_33 : decode M_Mod_mean.2.1 33 = .ok (.aload_n 0, 1) := by decide +kernel
theorem d_Mod_mean_34 : decode M_Mod_mean.2.1 34 = .ok (.getfield 18, 3) := by decide +kernel
theorem d_Mod_mean_37 : decode M_Mod_mean.2.1 37 = .ok (.iload_n 3, 1) := by decide +kernel
theorem d_Mod_mean_38 : decode M_Mod_mean.2.1 38 = .ok (.iaload, 1) := by decide +kernel
theorem d_Mod_mean_39 : decode M_Mod_mean.2.1 39 = .ok (.iadd, 1) := by decide +kernel
theorem d_Mod_mean_40 : decode M_Mod_mean.2.1 40 = .ok (.istore_n 2, 1) := by decide +kernel
theorem d_Mod_mean_41 : decode M_Mod_mean.2.1 41 = .ok (.iinc 3 1, 3) := by decide +kernel
theorem d_Mod_mean_44 : decode M_Mod_mean.2.1 44 = .ok (.goto (-20), 3) := by decide +kernel
def M_Mod_paysAll : XM := (⟨"HandshakeBindsModel", "paysAll", "(I)V"⟩, prog_11_method_58_code, 4, none)
theorem d_Mod_paysAll_0 : decode M_Mod_paysAll.2.1 0 = .ok (.iconst 0, 1) := by decide +kernel
theorem d_Mod_paysAll_1 : decode M_Mod_paysAll.2.1 1 = .ok (.istore_n 2, 1) := by decide +kernel
theorem d_Mod_paysAll_2 : decode M_Mod_paysAll.2.1 2 = .ok (.iload_n 2, 1) := by decide +kernel
theorem d_Mod_paysAll_3 : decode M_Mod_paysAll.2.1 3 = .ok (.aload_n 0, 1) := by decide +kernel
theorem d_Mod_paysAll_4 : decode M_Mod_paysAll.2.1 4 = .ok (.getfield 111, 3) := by decide +kernel
theorem d_Mod_paysAll_7 : decode M_Mod_paysAll.2.1 7 = .ok (.if_icmp .ge 75, 3) := by decide +kernel
theorem d_Mod_paysAll_82 : decode M_Mod_paysAll.2.1 82 = .ok (.return_, 1) := by decide +kernel
theorem d_Mod_paysAll_10 : decode M_Mod_paysAll.2.1 10 = .ok (.aload_n 0, 1) := by decide +kernel
theorem d_Mod_paysAll_11 : decode M_Mod_paysAll.2.1 11 = .ok (.getfield 18, 3) := by decide +kernel
theorem d_Mod_paysAll_14 : decode M_Mod_paysAll.2.1 14 = .ok (.iload_n 1, 1) := by decide +kernel
theorem d_Mod_paysAll_15 : decode M_Mod_paysAll.2.1 15 = .ok (.iaload, 1) := by decide +kernel
theorem d_Mod_paysAll_16 : decode M_Mod_paysAll.2.1 16 = .ok (.aload_n 0, 1) := by decide +kernel
theorem d_Mod_paysAll_17 : decode M_Mod_paysAll.2.1 17 = .ok (.getfield 24, 3) := by decide +kernel
theorem d_Mod_paysAll_20 : decode M_Mod_paysAll.2.1 20 = .ok (.bipush 6, 2) := by decide +kernel
theorem d_Mod_paysAll_22 : decode M_Mod_paysAll.2.1 22 = .ok (.iload_n 1, 1) := by decide +kernel
theorem d_Mod_paysAll_23 : decode M_Mod_paysAll.2.1 23 = .ok (.imul, 1) := by decide +kernel
theorem d_Mod_paysAll_24 : decode M_Mod_paysAll.2.1 24 = .ok (.iload_n 2, 1) := by decide +kernel
theorem d_Mod_paysAll_25 : decode M_Mod_paysAll.2.1 25 = .ok (.iadd, 1) := by decide +kernel
theorem d_Mod_paysAll_26 : decode M_Mod_paysAll.2.1 26 = .ok (.iaload, 1) := by decide +kernel
theorem d_Mod_paysAll_27 : decode M_Mod_paysAll.2.1 27 = .ok (.invokestatic 246, 3) := by decide +kernel
theorem d_Mod_paysAll_30 : decode M_Mod_paysAll.2.1 30 = .ok (.istore_n 3, 1) := by decide +kernel
theorem d_Mod_paysAll_31 : decode M_Mod_paysAll.2.1 31 = .ok (.aload_n 0, 1) := by decide +kernel
theorem d_Mod_paysAll_32 : decode M_Mod_paysAll.2.1 32 = .ok (.getfield 18, 3) := by decide +kernel
theorem d_Mod_paysAll_35 : decode M_Mod_paysAll.2.1 35 = .ok (.iload_n 1, 1) := by decide +kernel
theorem d_Mod_paysAll_36 : decode M_Mod_paysAll.2.1 36 = .ok (.dup2, 1) := by decide +kernel
theorem d_Mod_paysAll_37 : decode M_Mod_paysAll.2.1 37 = .ok (.iaload, 1) := by decide +kernel
theorem d_Mod_paysAll_38 : decode M_Mod_paysAll.2.1 38 = .ok (.iload_n 3, 1) := by decide +kernel
theorem d_Mod_paysAll_39 : decode M_Mod_paysAll.2.1 39 = .ok (.isub, 1) := by decide +kernel
theorem d_Mod_paysAll_40 : decode M_Mod_paysAll.2.1 40 = .ok (.iastore, 1) := by decide +kernel
theorem d_Mod_paysAll_41 : decode M_Mod_paysAll.2.1 41 = .ok (.aload_n 0, 1) := by decide +kernel
theorem d_Mod_paysAll_42 : decode M_Mod_paysAll.2.1 42 = .ok (.getfield 24, 3) := by decide +kernel
theorem d_Mod_paysAll_45 : decode M_Mod_paysAll.2.1 45 = .ok (.bipush 6, 2) := by decide +kernel
theorem d_Mod_paysAll_47 : decode M_Mod_paysAll.2.1 47 = .ok (.iload_n 1, 1) := by decide +kernel
theorem d_Mod_paysAll_48 : decode M_Mod_paysAll.2.1 48 = .ok (.imul, 1) := by decide +kernel
theorem d_Mod_paysAll_49 : decode M_Mod_paysAll.2.1 49 = .ok (.iload_n 2, 1) := by decide +kernel
theorem d_Mod_paysAll_50 : decode M_Mod_paysAll.2.1 50 = .ok (.iadd, 1) := by decide +kernel
theorem d_Mod_paysAll_51 : decode M_Mod_paysAll.2.1 51 = .ok (.dup2, 1) := by decide +kernel
theorem d_Mod_paysAll_52 : decode M_Mod_paysAll.2.1 52 = .ok (.iaload, 1) := by decide +kernel
theorem d_Mod_paysAll_53 : decode M_Mod_paysAll.2.1 53 = .ok (.iload_n 3, 1) := by decide +kernel
theorem d_Mod_paysAll_54 : decode M_Mod_paysAll.2.1 54 = .ok (.isub, 1) := by decide +kernel
theorem d_Mod_paysAll_55 : decode M_Mod_paysAll.2.1 55 = .ok (.iastore, 1) := by decide +kernel
theorem d_Mod_paysAll_56 : decode M_Mod_paysAll.2.1 56 = .ok (.aload_n 0, 1) := by decide +kernel
theorem d_Mod_paysAll_57 : decode M_Mod_paysAll.2.1 57 = .ok (.getfield 18, 3) := by decide +kernel
theorem d_Mod_paysAll_60 : decode M_Mod_paysAll.2.1 60 = .ok (.iload_n 2, 1) := by decide +kernel
theorem d_Mod_paysAll_61 : decode M_Mod_paysAll.2.1 61 = .ok (.sipush 9999, 3) := by decide +kernel
theorem d_Mod_paysAll_64 : decode M_Mod_paysAll.2.1 64 = .ok (.aload_n 0, 1) := by decide +kernel
theorem d_Mod_paysAll_65 : decode M_Mod_paysAll.2.1 65 = .ok (.getfield 18, 3) := by decide +kernel
theorem d_Mod_paysAll_68 : decode M_Mod_paysAll.2.1 68 = .ok (.iload_n 2, 1) := by decide +kernel
theorem d_Mod_paysAll_69 : decode M_Mod_paysAll.2.1 69 = .ok (.iaload, 1) := by decide +kernel
theorem d_Mod_paysAll_70 : decode M_Mod_paysAll.2.1 70 = .ok (.iload_n 3, 1) := by decide +kernel
theorem d_Mod_paysAll_71 : decode M_Mod_paysAll.2.1 71 = .ok (.iadd, 1) := by decide +kernel
theorem d_Mod_paysAll_72 : decode M_Mod_paysAll.2.1 72 = .ok (.invokestatic 246, 3) := by decide +kernel
theorem d_Mod_paysAll_75 : decode M_Mod_paysAll.2.1 75 = .ok (.iastore, 1) := by decide +kernel
theorem d_Mod_paysAll_76 : decode M_Mod_paysAll.2.1 76 = .ok (.iinc 2 1, 3) := by decide +kernel
theorem d_Mod_paysAll_79 : decode M_Mod_paysAll.2.1 79 = .ok (.goto (-77), 3) := by decide +kernel
theorem c_Mod_looked (X : Xn) (a ν : Nat → Nat) (σ : Nat → Nat → Int32) (τ : Nat → Int64) (hb8 : ν 32 ≤ 8) (hbk : ∀ i, i < ν 32 → ∃ P R : Nat, P < 6 ∧ R < 6 ∧ σ 33 i = nI P ∧ σ 34 i = nI R) : Does X 1 M_Mod_looked [.ref (a 0)] (MW X a ν σ τ) 0 0 (fun (vv : Option Value) (ww : va_W) => vv = some (.int (lookF (σ 5) (σ 33) (σ 34) (σ 35) (ν 32) (ν 32))) ∧ ww = MW X a ν σ τ) := by
  generalize hQ : (fun (vv : Option Value) (ww : va_W) => vv = some (.int (lookF (σ 5) (σ 33) (σ 34) (σ 35) (ν 32) (ν 32))) ∧ ww = MW X a ν σ τ) = Q
  refine Does.go rfl (Nat.le_of_ble_eq_true rfl) [some (.ref (a 0)), none] 1 rfl ?_
  refine r_iconst (nI 0) rfl 1 rfl d_Mod_looked_0 ?_
  refine r_istore_n (ls2 := [some (.ref (a 0)), some (.int (nI 0))]) 2 rfl d_Mod_looked_1 (by decide) rfl rfl ?_
  have L2_1 : ∀ (f : Nat) (i : Nat), (i ≤ ν 32) → (lookF (σ 5) (σ 33) (σ 34) (σ 35) (ν 32) (ν 32) = lookF (σ 5) (σ 33) (σ 34) (σ 35) (ν 32) (ν 32 - i)) → ν 32 - i < f → Runs X 1 M_Mod_looked 0 0 Q 2 [some (.ref (a 0)), some (.int (nI i))] [] 0 0 (MW X a ν σ τ) := by
    intro f
    induction f with
    | zero => intro i hi hr hmu; exact absurd hmu (Nat.not_lt_zero _)
    | succ f ih2 =>
      intro i hi hr hmu
      refine r_iload_n rfl 3 rfl d_Mod_looked_2 ?_
      refine r_aload_n rfl 4 rfl d_Mod_looked_3 ?_
      refine r_getf (v := .int (nI (ν 32))) gf_Mod_319 0 rfl rfl 7 rfl d_Mod_looked_4 ?_
      refine r_icmp_geN i (ν 32) (by omega) (by omega) 10 48 rfl rfl d_Mod_looked_7 (fun h7 => ?_) (fun h7 => ?_)
      · refine r_bipush ((-5)) rfl 50 rfl d_Mod_looked_48 ?_
        exact r_iret rfl (Nat.zero_le _) (Nat.zero_le _) d_Mod_looked_50 (by rw [← hQ]; exact ⟨by rw [hr, show ν 32 - i = 0 by omega]; rfl, rfl⟩)
      · refine r_aload_n rfl 11 rfl d_Mod_looked_10 ?_
        refine r_getf (v := .ref (a 5)) gf_Mod_24 0 rfl rfl 14 rfl d_Mod_looked_11 ?_
        refine r_bipush (nI 6) rfl 16 rfl d_Mod_looked_14 ?_
        refine r_aload_n rfl 17 rfl d_Mod_looked_16 ?_
        refine r_getf (v := .ref (a 33)) gf_Mod_73 0 rfl rfl 20 rfl d_Mod_looked_17 ?_
        refine r_iload_n rfl 21 rfl d_Mod_looked_20 ?_
        refine r_iald 21 rfl i rfl (by omega) (by omega) 22 rfl d_Mod_looked_21 ?_
        obtain ⟨P, R, hP, hR, eP, eR⟩ := hbk i h7
        refine r_topi (nI P) (eP) ?_
        refine r_imul 23 rfl d_Mod_looked_22 ?_
        refine r_topi (nI (6 * P)) (pk_mul _ _) ?_
        refine r_aload_n rfl 24 rfl d_Mod_looked_23 ?_
        refine r_getf (v := .ref (a 34)) gf_Mod_76 0 rfl rfl 27 rfl d_Mod_looked_24 ?_
        refine r_iload_n rfl 28 rfl d_Mod_looked_27 ?_
        refine r_iald 22 rfl i rfl (by omega) (by omega) 29 rfl d_Mod_looked_28 ?_
        refine r_topi (nI R) (eR) ?_
        refine r_iadd 30 rfl d_Mod_looked_29 ?_
        refine r_topi (nI ((6 * P) + R)) (nI_add _ _) ?_
        refine r_iald 5 rfl ((6 * P) + R) rfl (by omega) (by omega) 31 rfl d_Mod_looked_30 ?_
        refine r_aload_n rfl 32 rfl d_Mod_looked_31 ?_
        refine r_getf (v := .ref (a 35)) gf_Mod_79 0 rfl rfl 35 rfl d_Mod_looked_32 ?_
        refine r_iload_n rfl 36 rfl d_Mod_looked_35 ?_
        refine r_iald 23 rfl i rfl (by omega) (by omega) 37 rfl d_Mod_looked_36 ?_
        refine r_icmp_eq 40 42 rfl rfl d_Mod_looked_37 (fun h37 => ?_) (fun h37 => ?_)
        · refine r_iinc (ls2 := [some (.ref (a 0)), some (.int (nI (i + 1)))]) (nI (i + 1)) rfl (nI_1 _) 45 rfl d_Mod_looked_42 (by decide) rfl rfl ?_
          refine r_goto 2 rfl d_Mod_looked_45 ?_
          exact ih2 (i + 1) (by omega) (by rw [hr, lookF_s h7, if_pos (by rw [eP, eR, cn_nI (by omega), cn_nI (by omega)]; exact h37)]) (by omega)
        · refine r_iload_n rfl 41 rfl d_Mod_looked_40 ?_
          exact r_iret rfl (Nat.zero_le _) (Nat.zero_le _) d_Mod_looked_41 (by rw [← hQ]; exact ⟨by rw [hr, lookF_s h7, if_neg (by rw [eP, eR, cn_nI (by omega), cn_nI (by omega)]; exact h37)], rfl⟩)
  exact L2_1 _ 0 (Nat.zero_le _) (rfl) (Nat.lt_succ_self _)
theorem c_Mod_part (X : Xn) (A0 B0 : Nat) (hA : A0 < 2 ^ 31) (hB : B0 < 2 ^ 31) (hB1 : 0 < B0) (q : Int32) : Does X 1 M_Mod_part [.int (nI A0), .int (nI B0), .int q] ([]) 0 0 (fun (vv : Option Value) (ww : va_W) => vv = some (.long (R_part A0 B0 q)) ∧ ww = []) := by
  generalize hQ : (fun (vv : Option Value) (ww : va_W) => vv = some (.long (R_part A0 B0 q)) ∧ ww = []) = Q
  refine Does.go rfl (Nat.le_of_ble_eq_true rfl) [some (.int (nI A0)), some (.int (nI B0)), some (.int q), none, none, none] 3 rfl ?_
  refine r_iload_n rfl 1 rfl d_Mod_part_0 ?_
  refine r_istore_n (ls2 := [some (.int (nI A0)), some (.int (nI B0)), some (.int q), some (.int (nI A0)), none, none]) 2 rfl d_Mod_part_1 (by decide) rfl rfl ?_
  refine r_iload_n rfl 3 rfl d_Mod_part_2 ?_
  refine r_istore (ls2 := [some (.int (nI A0)), some (.int (nI B0)), some (.int q), some (.int (nI A0)), some (.int (nI B0)), none]) 5 rfl d_Mod_part_3 (by decide) rfl rfl ?_
  have L5_1 : ∀ (f : Nat) (x : Nat) (y : Nat), (x < 2 ^ 31) → (y < 2 ^ 31) → (Nat.gcd y x = Nat.gcd B0 A0) → y < f → Runs X 1 M_Mod_part 0 0 Q 5 [some (.int (nI A0)), some (.int (nI B0)), some (.int q), some (.int (nI x)), some (.int (nI y)), none] [] 0 0 ([]) := by
    intro f
    induction f with
    | zero => intro x y hx hy hg hmu; exact absurd hmu (Nat.not_lt_zero _)
    | succ f ih2 =>
      intro x y hx hy hg hmu
      refine r_iload rfl 7 rfl d_Mod_part_5 ?_
      refine r_if_eqN y (by omega) 10 26 rfl rfl d_Mod_part_7 (fun h7 => ?_) (fun h7 => ?_)
      · have hxg : x = Nat.gcd B0 A0 := by rw [← hg, h7, Nat.gcd_zero_left]
        have hx0 : 0 < x := by rw [hxg]; exact Nat.gcd_pos_of_pos_left _ hB1
        refine r_iload_n rfl 27 rfl d_Mod_part_26 ?_
        refine r_if_ne 30 37 rfl rfl d_Mod_part_27 (fun h27 => ?_) (fun h27 => ?_)
        · refine r_iload_n rfl 38 rfl d_Mod_part_37 ?_
          refine r_iload_n rfl 39 rfl d_Mod_part_38 ?_
          refine r_idiv (nI_ne0 hx0 hx) 40 rfl d_Mod_part_39 ?_
          refine r_topi (nI (B0 / x)) (pk_div (by omega) (by omega) (by omega)) ?_
          refine r_i2l 41 rfl d_Mod_part_40 ?_
          refine r_topl (lN (B0 / x)) (nI_l (Nat.lt_of_le_of_lt (Nat.div_le_self _ _) (by omega))) ?_
          exact r_lret rfl (Nat.zero_le _) (Nat.zero_le _) d_Mod_part_41 (by rw [← hQ]; exact ⟨by rw [R_part, if_neg h27, hxg], rfl⟩)
        · refine r_iload_n rfl 31 rfl d_Mod_part_30 ?_
          refine r_iload_n rfl 32 rfl d_Mod_part_31 ?_
          refine r_idiv (nI_ne0 hx0 hx) 33 rfl d_Mod_part_32 ?_
          refine r_topi (nI (A0 / x)) (pk_div (by omega) (by omega) (by omega)) ?_
          refine r_i2l 34 rfl d_Mod_part_33 ?_
          refine r_topl (lN (A0 / x)) (nI_l (Nat.lt_of_le_of_lt (Nat.div_le_self _ _) (by omega))) ?_
          refine r_goto 41 rfl d_Mod_part_34 ?_
          exact r_lret rfl (Nat.zero_le _) (Nat.zero_le _) d_Mod_part_41 (by rw [← hQ]; exact ⟨by rw [R_part, if_pos h27, hxg], rfl⟩)
      · refine r_iload_n rfl 11 rfl d_Mod_part_10 ?_
        refine r_iload rfl 13 rfl d_Mod_part_11 ?_
        refine r_irem (nI_ne0 (by omega) (by omega)) 14 rfl d_Mod_part_13 ?_
        refine r_topi (nI (x % y)) (pk_rem (by omega) (by omega) (by omega)) ?_
        refine r_istore (ls2 := [some (.int (nI A0)), some (.int (nI B0)), some (.int q), some (.int (nI x)), some (.int (nI y)), some (.int (nI (x % y)))]) 16 rfl d_Mod_part_14 (by decide) rfl rfl ?_
        refine r_iload rfl 18 rfl d_Mod_part_16 ?_
        refine r_istore_n (ls2 := [some (.int (nI A0)), some (.int (nI B0)), some (.int q), some (.int (nI y)), some (.int (nI y)), some (.int (nI (x % y)))]) 19 rfl d_Mod_part_18 (by decide) rfl rfl ?_
        refine r_iload rfl 21 rfl d_Mod_part_19 ?_
        refine r_istore (ls2 := [some (.int (nI A0)), some (.int (nI B0)), some (.int q), some (.int (nI y)), some (.int (nI (x % y))), some (.int (nI (x % y)))]) 23 rfl d_Mod_part_21 (by decide) rfl rfl ?_
        refine r_goto 5 rfl d_Mod_part_23 ?_
        refine r_forget (ls2 := [some (.int (nI A0)), some (.int (nI B0)), some (.int q), some (.int (nI y)), some (.int (nI (x % y))), none]) 5 rfl ?_
        exact ih2 y (x % y) (hy) (by have := Nat.mod_lt x (show y > 0 by omega); omega) (by rw [← hg, ← Nat.gcd_rec]) (by have := Nat.mod_lt x (show y > 0 by omega); omega)
  exact L5_1 _ A0 B0 (hA) (hB) (rfl) (Nat.lt_succ_self _)
theorem c_Mod_odds (X : Xn) (a ν : Nat → Nat) (σ : Nat → Nat → Int32) (τ : Nat → Int64) (hn6 : ν 0 ≤ 6) (p : Int32) : Does X 4 M_Mod_odds [.ref (a 0), .int p] (MW X a ν σ τ) 0 0 (fun (vv : Option Value) (ww : va_W) => vv = some (.long (R_odds (ν 0) (σ 3) (σ 5) p)) ∧ ww = MW X a ν σ τ) := by
  generalize hQ : (fun (vv : Option Value) (ww : va_W) => vv = some (.long (R_odds (ν 0) (σ 3) (σ 5) p)) ∧ ww = MW X a ν σ τ) = Q
  refine Does.go rfl (Nat.le_of_ble_eq_true rfl) [some (.ref (a 0)), some (.int p), none, none] 2 rfl ?_
  refine r_iload_n rfl 1 rfl d_Mod_odds_0 ?_
  refine r_iconst (nI 0) rfl 2 rfl d_Mod_odds_1 ?_
  refine r_iconst (nI 1) rfl 3 rfl d_Mod_odds_2 ?_
  refine r_callS1 (st2 := [.int (bI (inR p (nI 0) (nI 1)))]) (w2 := MW X a ν σ τ) lk_Mod_within ln_Mod_114 (c_Mod_within X p (nI 0) (nI 1)) (by first | decide | omega) rfl rfl (Nat.le_of_ble_eq_true rfl) (Nat.le_of_ble_eq_true rfl) (Nat.le_of_ble_eq_true rfl) [] rfl rfl rfl rfl rfl 6 rfl d_Mod_odds_3 ?_
  refine r_if_eqB 9 16 rfl rfl d_Mod_odds_6 (fun h6 => ?_) (fun h6 => ?_)
  · refine r_ldc2 (v := (-9223372036854775808)) (inTB 1281 (by decide +kernel) rfl) 19 rfl d_Mod_odds_16 ?_
    exact r_lret rfl (Nat.zero_le _) (Nat.zero_le _) d_Mod_odds_19 (by rw [← hQ]; exact ⟨by rw [R_odds, if_neg (fun z => by rw [h6] at z; exact absurd z.1 (by decide))], rfl⟩)
  · refine r_aload_n rfl 10 rfl d_Mod_odds_9 ?_
    refine r_getf (v := .int (nI (ν 0))) gf_Mod_111 0 rfl rfl 13 rfl d_Mod_odds_10 ?_
    refine r_if_neN (ν 0) (by omega) 16 20 rfl rfl d_Mod_odds_13 (fun h13 => ?_) (fun h13 => ?_)
    · refine r_iconst (nI 0) rfl 21 rfl d_Mod_odds_20 ?_
      refine r_istore_n (ls2 := [some (.ref (a 0)), some (.int p), some (.int (nI 0)), none]) 22 rfl d_Mod_odds_21 (by decide) rfl rfl ?_
      refine r_iconst (nI 0) rfl 23 rfl d_Mod_odds_22 ?_
      refine r_istore_n (ls2 := [some (.ref (a 0)), some (.int p), some (.int (nI 0)), some (.int (nI 0))]) 24 rfl d_Mod_odds_23 (by decide) rfl rfl ?_
      have L24_1 : ∀ (f : Nat) (k : Nat), (k ≤ ν 0) → ν 0 - k < f → Runs X 4 M_Mod_odds 0 0 Q 24 [some (.ref (a 0)), some (.int p), some (.int (nI (alone (ν 0) (σ 3) (σ 5) k))), some (.int (nI k))] [] 0 0 (MW X a ν σ τ) := by
        intro f
        induction f with
        | zero => intro k hk hmu; exact absurd hmu (Nat.not_lt_zero _)
        | succ f ih2 =>
          intro k hk hmu
          refine r_iload_n rfl 25 rfl d_Mod_odds_24 ?_
          refine r_aload_n rfl 26 rfl d_Mod_odds_25 ?_
          refine r_getf (v := .int (nI (ν 0))) gf_Mod_111 0 rfl rfl 29 rfl d_Mod_odds_26 ?_
          refine r_icmp_geN k (ν 0) (by omega) (by omega) 32 54 rfl rfl d_Mod_odds_29 (fun h29 => ?_) (fun h29 => ?_)
          · have hal := alone_le (ν 0) (σ 3) (σ 5) k
            refine r_iload_n rfl 55 rfl d_Mod_odds_54 ?_
            refine r_aload_n rfl 56 rfl d_Mod_odds_55 ?_
            refine r_getf (v := .int (nI (ν 0))) gf_Mod_111 0 rfl rfl 59 rfl d_Mod_odds_56 ?_
            refine r_iload_n rfl 60 rfl d_Mod_odds_59 ?_
            refine r_callS1 (st2 := [.long (R_part (alone (ν 0) (σ 3) (σ 5) k) (ν 0) p)]) (w2 := MW X a ν σ τ) lk_Mod_part ln_Mod_308 (c_Mod_part X (alone (ν 0) (σ 3) (σ 5) k) (ν 0) (by omega) (by omega) (by omega) p) (by first | decide | omega) rfl rfl (Nat.le_of_ble_eq_true rfl) (Nat.le_of_ble_eq_true rfl) (Nat.le_of_ble_eq_true rfl) [] rfl rfl rfl rfl rfl 63 rfl d_Mod_odds_60 ?_
            exact r_lret rfl (Nat.zero_le _) (Nat.zero_le _) d_Mod_odds_63 (by rw [← hQ]; exact ⟨by rw [R_odds, if_pos ⟨h6, h13⟩, show k = ν 0 by omega], rfl⟩)
          · refine r_aload_n rfl 33 rfl d_Mod_odds_32 ?_
            refine r_iconst (nI 1) rfl 34 rfl d_Mod_odds_33 ?_
            refine r_iload_n rfl 35 rfl d_Mod_odds_34 ?_
            refine r_ishl 36 rfl d_Mod_odds_35 ?_
            refine r_topi (nI (1 <<< k)) (nI_shl (by omega) (one_shl (by omega))) ?_
            refine r_callVA1 (st2 := [.int (nI (fails (ν 0) (σ 3) (σ 5) (1 <<< k)))]) (w2 := MW X a ν σ τ) lk_Mod_fails ln_Mod_134 (c_Mod_fails X a ν σ τ hn6 (1 <<< k) (by first | omega | assumption | exact shl_lt6 (by omega))) (by first | decide | omega) rfl rfl (Nat.le_of_ble_eq_true rfl) (Nat.le_of_ble_eq_true rfl) (Nat.le_of_ble_eq_true rfl) 0 rfl rfl rfl rfl 39 rfl d_Mod_odds_36 ?_
            have hfl : fails (ν 0) (σ 3) (σ 5) (1 <<< k) < 64 := fails_lt hn6 (shl_lt6 (by omega))
            refine r_iconst (nI 1) rfl 40 rfl d_Mod_odds_39 ?_
            refine r_iload_n rfl 41 rfl d_Mod_odds_40 ?_
            refine r_ishl 42 rfl d_Mod_odds_41 ?_
            refine r_topi (nI (1 <<< k)) (nI_shl (by omega) (one_shl (by omega))) ?_
            refine r_icmp_neN (fails (ν 0) (σ 3) (σ 5) (1 <<< k)) (1 <<< k) (Nat.lt_trans hfl (by decide)) (shl_lt31 (by omega)) 45 48 rfl rfl d_Mod_odds_42 (fun h42 => ?_) (fun h42 => ?_)
            · refine r_iinc (ls2 := [some (.ref (a 0)), some (.int p), some (.int (nI (alone (ν 0) (σ 3) (σ 5) k))), some (.int (nI (k + 1)))]) (nI (k + 1)) rfl (nI_1 _) 51 rfl d_Mod_odds_48 (by decide) rfl rfl ?_
              refine r_goto 24 rfl d_Mod_odds_51 ?_
              refine Runs.cast (ih2 (k + 1) (by omega) (by omega)) (by rw [alone, if_neg h42]; try rfl) rfl (rfl)
            · refine r_iinc (ls2 := [some (.ref (a 0)), some (.int p), some (.int (nI ((alone (ν 0) (σ 3) (σ 5) k) + 1))), some (.int (nI k))]) (nI ((alone (ν 0) (σ 3) (σ 5) k) + 1)) rfl (nI_1 _) 48 rfl d_Mod_odds_45 (by decide) rfl rfl ?_
              refine r_iinc (ls2 := [some (.ref (a 0)), some (.int p), some (.int (nI ((alone (ν 0) (σ 3) (σ 5) k) + 1))), some (.int (nI (k + 1)))]) (nI (k + 1)) rfl (nI_1 _) 51 rfl d_Mod_odds_48 (by decide) rfl rfl ?_
              refine r_goto 24 rfl d_Mod_odds_51 ?_
              refine Runs.cast (ih2 (k + 1) (by omega) (by omega)) (by rw [alone, if_pos h42]; try rfl) rfl (rfl)
      exact L24_1 _ 0 (by omega) (Nat.lt_succ_self _)
    · refine r_ldc2 (v := (-9223372036854775808)) (inTB 1281 (by decide +kernel) rfl) 19 rfl d_Mod_odds_16 ?_
      exact r_lret rfl (Nat.zero_le _) (Nat.zero_le _) d_Mod_odds_19 (by rw [← hQ]; exact ⟨by rw [R_odds, if_neg (fun z => z.2 h13)], rfl⟩)
theorem c_Mod_mean (X : Xn) (a ν : Nat → Nat) (σ : Nat → Nat → Int32) (τ : Nat → Int64) (hn6 : ν 0 ≤ 6) (pv : Nat → Nat) (hpu : ∀ i, i < 6 → σ 3 i = nI (pv i) ∧ pv i ≤ 9999) (p : Int32) : Does X 4 M_Mod_mean [.ref (a 0), .int p] (MW X a ν σ τ) 0 0 (fun (vv : Option Value) (ww : va_W) => vv = some (.long (R_mean (ν 0) pv p)) ∧ ww = MW X a ν σ τ) := by
  generalize hQ : (fun (vv : Option Value) (ww : va_W) => vv = some (.long (R_mean (ν 0) pv p)) ∧ ww = MW X a ν σ τ) = Q
  refine Does.go rfl (Nat.le_of_ble_eq_true rfl) [some (.ref (a 0)), some (.int p), none, none] 2 rfl ?_
  refine r_iload_n rfl 1 rfl d_Mod_mean_0 ?_
  refine r_iconst (nI 0) rfl 2 rfl d_Mod_mean_1 ?_
  refine r_iconst (nI 1) rfl 3 rfl d_Mod_mean_2 ?_
  refine r_callS1 (st2 := [.int (bI (inR p (nI 0) (nI 1)))]) (w2 := MW X a ν σ τ) lk_Mod_within ln_Mod_114 (c_Mod_within X p (nI 0) (nI 1)) (by first | decide | omega) rfl rfl (Nat.le_of_ble_eq_true rfl) (Nat.le_of_ble_eq_true rfl) (Nat.le_of_ble_eq_true rfl) [] rfl rfl rfl rfl rfl 6 rfl d_Mod_mean_3 ?_
  refine r_if_eqB 9 16 rfl rfl d_Mod_mean_6 (fun h6 => ?_) (fun h6 => ?_)
  · refine r_ldc2 (v := (-9223372036854775808)) (inTB 1281 (by decide +kernel) rfl) 19 rfl d_Mod_mean_16 ?_
    exact r_lret rfl (Nat.zero_le _) (Nat.zero_le _) d_Mod_mean_19 (by rw [← hQ]; exact ⟨by rw [R_mean, if_neg (fun z => by rw [h6] at z; exact absurd z.1 (by decide))], rfl⟩)
  · refine r_aload_n rfl 10 rfl d_Mod_mean_9 ?_
    refine r_getf (v := .int (nI (ν 0))) gf_Mod_111 0 rfl rfl 13 rfl d_Mod_mean_10 ?_
    refine r_if_neN (ν 0) (by omega) 16 20 rfl rfl d_Mod_mean_13 (fun h13 => ?_) (fun h13 => ?_)
    · refine r_iconst (nI 0) rfl 21 rfl d_Mod_mean_20 ?_
      refine r_istore_n (ls2 := [some (.ref (a 0)), some (.int p), some (.int (nI 0)), none]) 22 rfl d_Mod_mean_21 (by decide) rfl rfl ?_
      refine r_iconst (nI 0) rfl 23 rfl d_Mod_mean_22 ?_
      refine r_istore_n (ls2 := [some (.ref (a 0)), some (.int p), some (.int (nI 0)), some (.int (nI 0))]) 24 rfl d_Mod_mean_23 (by decide) rfl rfl ?_
      have L24_1 : ∀ (f : Nat) (k : Nat), (k ≤ ν 0) → ν 0 - k < f → Runs X 4 M_Mod_mean 0 0 Q 24 [some (.ref (a 0)), some (.int p), some (.int (nI (psum pv k))), some (.int (nI k))] [] 0 0 (MW X a ν σ τ) := by
        intro f
        induction f with
        | zero => intro k hk hmu; exact absurd hmu (Nat.not_lt_zero _)
        | succ f ih2 =>
          intro k hk hmu
          refine r_iload_n rfl 25 rfl d_Mod_mean_24 ?_
          refine r_aload_n rfl 26 rfl d_Mod_mean_25 ?_
          refine r_getf (v := .int (nI (ν 0))) gf_Mod_111 0 rfl rfl 29 rfl d_Mod_mean_26 ?_
          refine r_icmp_geN k (ν 0) (by omega) (by omega) 32 47 rfl rfl d_Mod_mean_29 (fun h29 => ?_) (fun h29 => ?_)
          · have hps := psum_le (pv := pv) (B := 9999) k (fun i hi => (hpu i (by omega)).2)
            refine r_iload_n rfl 48 rfl d_Mod_mean_47 ?_
            refine r_aload_n rfl 49 rfl d_Mod_mean_48 ?_
            refine r_getf (v := .int (nI (ν 0))) gf_Mod_111 0 rfl rfl 52 rfl d_Mod_mean_49 ?_
            refine r_iload_n rfl 53 rfl d_Mod_mean_52 ?_
            refine r_callS1 (st2 := [.long (R_part (psum pv k) (ν 0) p)]) (w2 := MW X a ν σ τ) lk_Mod_part ln_Mod_308 (c_Mod_part X (psum pv k) (ν 0) (by omega) (by omega) (by omega) p) (by first | decide | omega) rfl rfl (Nat.le_of_ble_eq_true rfl) (Nat.le_of_ble_eq_true rfl) (Nat.le_of_ble_eq_true rfl) [] rfl rfl rfl rfl rfl 56 rfl d_Mod_mean_53 ?_
            exact r_lret rfl (Nat.zero_le _) (Nat.zero_le _) d_Mod_mean_56 (by rw [← hQ]; exact ⟨by rw [R_mean, if_pos ⟨h6, h13⟩, show k = ν 0 by omega], rfl⟩)
          · refine r_iload_n rfl 33 rfl d_Mod_mean_32 ?_
            refine r_aload_n rfl 34 rfl d_Mod_mean_33 ?_
            refine r_getf (v := .ref (a 3)) gf_Mod_18 0 rfl rfl 37 rfl d_Mod_mean_34 ?_
            refine r_iload_n rfl 38 rfl d_Mod_mean_37 ?_
            refine r_iald 3 rfl k rfl (by omega) (by omega) 39 rfl d_Mod_mean_38 ?_
            refine r_topi (nI (pv k)) ((hpu k (by omega)).1) ?_
            refine r_iadd 40 rfl d_Mod_mean_39 ?_
            refine r_topi (nI ((psum pv k) + (pv k))) (nI_add _ _) ?_
            refine r_istore_n (ls2 := [some (.ref (a 0)), some (.int p), some (.int (nI ((psum pv k) + (pv k)))), some (.int (nI k))]) 41 rfl d_Mod_mean_40 (by decide) rfl rfl ?_
            refine r_iinc (ls2 := [some (.ref (a 0)), some (.int p), some (.int (nI ((psum pv k) + (pv k)))), some (.int (nI (k + 1)))]) (nI (k + 1)) rfl (nI_1 _) 44 rfl d_Mod_mean_41 (by decide) rfl rfl ?_
            refine r_goto 24 rfl d_Mod_mean_44 ?_
            exact ih2 (k + 1) (by omega) (by omega)
      exact L24_1 _ 0 (by omega) (Nat.lt_succ_self _)
    · refine r_ldc2 (v := (-9223372036854775808)) (inTB 1281 (by decide +kernel) rfl) 19 rfl d_Mod_mean_16 ?_
      exact r_lret rfl (Nat.zero_le _) (Nat.zero_le _) d_Mod_mean_19 (by rw [← hQ]; exact ⟨by rw [R_mean, if_neg (fun z => z.2 h13)], rfl⟩)
theorem c_Mod_paysAll (X : Xn) (a ν : Nat → Nat) (σ : Nat → Nat → Int32) (τ : Nat → Int64) (hn6 : ν 0 ≤ 6) (p : Nat) (hp : p < 6) : Does X 2 M_Mod_paysAll [.ref (a 0), .int (nI p)] (MW X a ν σ τ) 0 0 (fun (vv : Option Value) (ww : va_W) => vv = none ∧ ww = MW X a ν (u2 (u2 σ 3 (paysN p (σ 3, σ 5) (ν 0)).1) 5 (paysN p (σ 3, σ 5) (ν 0)).2) τ) := by
  generalize hQ : (fun (vv : Option Value) (ww : va_W) => vv = none ∧ ww = MW X a ν (u2 (u2 σ 3 (paysN p (σ 3, σ 5) (ν 0)).1) 5 (paysN p (σ 3, σ 5) (ν 0)).2) τ) = Q
  refine Does.go rfl (Nat.le_of_ble_eq_true rfl) [some (.ref (a 0)), some (.int (nI p)), none, none] 2 rfl ?_
  refine r_iconst (nI 0) rfl 1 rfl d_Mod_paysAll_0 ?_
  refine r_istore_n (ls2 := [some (.ref (a 0)), some (.int (nI p)), some (.int (nI 0)), none]) 2 rfl d_Mod_paysAll_1 (by decide) rfl rfl ?_
  have L2_1 : ∀ (f : Nat) (k : Nat), (k ≤ ν 0) → ν 0 - k < f → Runs X 2 M_Mod_paysAll 0 0 Q 2 [some (.ref (a 0)), some (.int (nI p)), some (.int (nI k)), none] [] 0 0 (MW X a ν (u2 (u2 σ 3 (paysN p (σ 3, σ 5) k).1) 5 (paysN p (σ 3, σ 5) k).2) τ) := by
    intro f
    induction f with
    | zero => intro k hk hmu; exact absurd hmu (Nat.not_lt_zero _)
    | succ f ih2 =>
      intro k hk hmu
      refine r_iload_n rfl 3 rfl d_Mod_paysAll_2 ?_
      refine r_aload_n rfl 4 rfl d_Mod_paysAll_3 ?_
      refine r_getf (v := .int (nI (ν 0))) gf_Mod_111 0 rfl rfl 7 rfl d_Mod_paysAll_4 ?_
      refine r_icmp_geN k (ν 0) (by omega) (by omega) 10 82 rfl rfl d_Mod_paysAll_7 (fun h7 => ?_) (fun h7 => ?_)
      · exact r_vret rfl (Nat.zero_le _) (Nat.zero_le _) d_Mod_paysAll_82 (by rw [← hQ]; exact ⟨rfl, by rw [show k = ν 0 by omega]⟩)
      · refine r_aload_n rfl 11 rfl d_Mod_paysAll_10 ?_
        refine r_getf (v := .ref (a 3)) gf_Mod_18 0 rfl rfl 14 rfl d_Mod_paysAll_11 ?_
        refine r_iload_n rfl 15 rfl d_Mod_paysAll_14 ?_
        refine r_iald 3 rfl p rfl (by omega) (by omega) 16 rfl d_Mod_paysAll_15 ?_
        refine r_aload_n rfl 17 rfl d_Mod_paysAll_16 ?_
        refine r_getf (v := .ref (a 5)) gf_Mod_24 0 rfl rfl 20 rfl d_Mod_paysAll_17 ?_
        refine r_bipush (nI 6) rfl 22 rfl d_Mod_paysAll_20 ?_
        refine r_iload_n rfl 23 rfl d_Mod_paysAll_22 ?_
        refine r_imul 24 rfl d_Mod_paysAll_23 ?_
        refine r_topi (nI (6 * p)) (pk_mul _ _) ?_
        refine r_iload_n rfl 25 rfl d_Mod_paysAll_24 ?_
        refine r_iadd 26 rfl d_Mod_paysAll_25 ?_
        refine r_topi (nI ((6 * p) + k)) (nI_add _ _) ?_
        refine r_iald 5 rfl ((6 * p) + k) rfl (by omega) (by omega) 27 rfl d_Mod_paysAll_26 ?_
        refine r_mmin (inTB 1187 (by decide +kernel) rfl) (by first | decide | omega) (Nat.le_of_ble_eq_true rfl) (Nat.le_of_ble_eq_true rfl) (Nat.le_of_ble_eq_true rfl) 30 rfl d_Mod_paysAll_27 ?_
        refine r_topi (mn ((paysN p (σ 3, σ 5) k).1 p) ((paysN p (σ 3, σ 5) k).2 (6 * p + k))) rfl ?_
        refine r_istore_n (ls2 := [some (.ref (a 0)), some (.int (nI p)), some (.int (nI k)), some (.int (mn ((paysN p (σ 3, σ 5) k).1 p) ((paysN p (σ 3, σ 5) k).2 (6 * p + k))))]) 31 rfl d_Mod_paysAll_30 (by decide) rfl rfl ?_
        refine r_aload_n rfl 32 rfl d_Mod_paysAll_31 ?_
        refine r_getf (v := .ref (a 3)) gf_Mod_18 0 rfl rfl 35 rfl d_Mod_paysAll_32 ?_
        refine r_iload_n rfl 36 rfl d_Mod_paysAll_35 ?_
        refine r_dup2 rfl rfl 37 rfl d_Mod_paysAll_36 ?_
        refine r_iald 3 rfl p rfl (by omega) (by omega) 38 rfl d_Mod_paysAll_37 ?_
        refine r_iload_n rfl 39 rfl d_Mod_paysAll_38 ?_
        refine r_isub 40 rfl d_Mod_paysAll_39 ?_
        refine r_iast (w2 := MW X a ν (u2 (u2 (u2 σ 3 (paysN p (σ 3, σ 5) k).1) 5 (paysN p (σ 3, σ 5) k).2) 3 (upd ((paysN p (σ 3, σ 5) k).1) p (((paysN p (σ 3, σ 5) k).1 p) - (mn ((paysN p (σ 3, σ 5) k).1 p) ((paysN p (σ 3, σ 5) k).2 (6 * p + k)))))) τ) 3 rfl p rfl (by omega) (by omega) rfl 41 rfl d_Mod_paysAll_40 ?_
        refine r_aload_n rfl 42 rfl d_Mod_paysAll_41 ?_
        refine r_getf (v := .ref (a 5)) gf_Mod_24 0 rfl rfl 45 rfl d_Mod_paysAll_42 ?_
        refine r_bipush (nI 6) rfl 47 rfl d_Mod_paysAll_45 ?_
        refine r_iload_n rfl 48 rfl d_Mod_paysAll_47 ?_
        refine r_imul 49 rfl d_Mod_paysAll_48 ?_
        refine r_topi (nI (6 * p)) (pk_mul _ _) ?_
        refine r_iload_n rfl 50 rfl d_Mod_paysAll_49 ?_
        refine r_iadd 51 rfl d_Mod_paysAll_50 ?_
        refine r_topi (nI ((6 * p) + k)) (nI_add _ _) ?_
        refine r_dup2 rfl rfl 52 rfl d_Mod_paysAll_51 ?_
        refine r_iald 5 rfl ((6 * p) + k) rfl (by omega) (by omega) 53 rfl d_Mod_paysAll_52 ?_
        refine r_iload_n rfl 54 rfl d_Mod_paysAll_53 ?_
        refine r_isub 55 rfl d_Mod_paysAll_54 ?_
        refine r_iast (w2 := MW X a ν (u2 (u2 (u2 (u2 σ 3 (paysN p (σ 3, σ 5) k).1) 5 (paysN p (σ 3, σ 5) k).2) 3 (upd ((paysN p (σ 3, σ 5) k).1) p (((paysN p (σ 3, σ 5) k).1 p) - (mn ((paysN p (σ 3, σ 5) k).1 p) ((paysN p (σ 3, σ 5) k).2 (6 * p + k)))))) 5 (upd ((paysN p (σ 3, σ 5) k).2) ((6 * p) + k) (((paysN p (σ 3, σ 5) k).2 ((6 * p) + k)) - (mn ((paysN p (σ 3, σ 5) k).1 p) ((paysN p (σ 3, σ 5) k).2 (6 * p + k)))))) τ) 5 rfl ((6 * p) + k) rfl (by omega) (by omega) rfl 56 rfl d_Mod_paysAll_55 ?_
        refine r_aload_n rfl 57 rfl d_Mod_paysAll_56 ?_
        refine r_getf (v := .ref (a 3)) gf_Mod_18 0 rfl rfl 60 rfl d_Mod_paysAll_57 ?_
        refine r_iload_n rfl 61 rfl d_Mod_paysAll_60 ?_
        refine r_sipush (nI 9999) rfl 64 rfl d_Mod_paysAll_61 ?_
        refine r_aload_n rfl 65 rfl d_Mod_paysAll_64 ?_
        refine r_getf (v := .ref (a 3)) gf_Mod_18 0 rfl rfl 68 rfl d_Mod_paysAll_65 ?_
        refine r_iload_n rfl 69 rfl d_Mod_paysAll_68 ?_
        refine r_iald 3 rfl k rfl (by omega) (by omega) 70 rfl d_Mod_paysAll_69 ?_
        refine r_iload_n rfl 71 rfl d_Mod_paysAll_70 ?_
        refine r_iadd 72 rfl d_Mod_paysAll_71 ?_
        refine r_mmin (inTB 1187 (by decide +kernel) rfl) (by first | decide | omega) (Nat.le_of_ble_eq_true rfl) (Nat.le_of_ble_eq_true rfl) (Nat.le_of_ble_eq_true rfl) 75 rfl d_Mod_paysAll_72 ?_
        refine r_iast (w2 := MW X a ν (u2 (u2 (u2 (u2 (u2 σ 3 (paysN p (σ 3, σ 5) k).1) 5 (paysN p (σ 3, σ 5) k).2) 3 (upd ((paysN p (σ 3, σ 5) k).1) p (((paysN p (σ 3, σ 5) k).1 p) - (mn ((paysN p (σ 3, σ 5) k).1 p) ((paysN p (σ 3, σ 5) k).2 (6 * p + k)))))) 5 (upd ((paysN p (σ 3, σ 5) k).2) ((6 * p) + k) (((paysN p (σ 3, σ 5) k).2 ((6 * p) + k)) - (mn ((paysN p (σ 3, σ 5) k).1 p) ((paysN p (σ 3, σ 5) k).2 (6 * p + k)))))) 3 (upd (upd ((paysN p (σ 3, σ 5) k).1) p (((paysN p (σ 3, σ 5) k).1 p) - (mn ((paysN p (σ 3, σ 5) k).1 p) ((paysN p (σ 3, σ 5) k).2 (6 * p + k))))) k (if (((upd ((paysN p (σ 3, σ 5) k).1) p (((paysN p (σ 3, σ 5) k).1 p) - (mn ((paysN p (σ 3, σ 5) k).1 p) ((paysN p (σ 3, σ 5) k).2 (6 * p + k))))) k) + (mn ((paysN p (σ 3, σ 5) k).1 p) ((paysN p (σ 3, σ 5) k).2 (6 * p + k)))) < (nI 9999) then (((upd ((paysN p (σ 3, σ 5) k).1) p (((paysN p (σ 3, σ 5) k).1 p) - (mn ((paysN p (σ 3, σ 5) k).1 p) ((paysN p (σ 3, σ 5) k).2 (6 * p + k))))) k) + (mn ((paysN p (σ 3, σ 5) k).1 p) ((paysN p (σ 3, σ 5) k).2 (6 * p + k)))) else (nI 9999)))) τ) 3 rfl k rfl (by omega) (by omega) rfl 76 rfl d_Mod_paysAll_75 ?_
        refine r_iinc (ls2 := [some (.ref (a 0)), some (.int (nI p)), some (.int (nI (k + 1))), some (.int (mn ((paysN p (σ 3, σ 5) k).1 p) ((paysN p (σ 3, σ 5) k).2 (6 * p + k))))]) (nI (k + 1)) rfl (nI_1 _) 79 rfl d_Mod_paysAll_76 (by decide) rfl rfl ?_
        refine r_goto 2 rfl d_Mod_paysAll_79 ?_
        refine r_forget (ls2 := [some (.ref (a 0)), some (.int (nI p)), some (.int (nI (k + 1))), none]) 3 rfl ?_
        refine Runs.cast (ih2 (k + 1) (by omega) (by omega)) (rfl) rfl (by rw [pay_w]; rfl; try rfl)
  refine Runs.cast (L2_1 _ 0 (by omega) (Nat.lt_succ_self _)) (rfl) rfl (by rw [show paysN p (σ 3, σ 5) 0 = (σ 3, σ 5) from rfl, pay_0])
end
