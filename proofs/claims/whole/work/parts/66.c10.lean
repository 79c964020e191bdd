def M_Scr_next : XM := (⟨"HandshakeBinds$Scribe", "next", "()I"⟩, prog_8_method_10_code, 1, (some .int))
theorem d_Scr_next_0 : decode M_Scr_next.2.1 0 = .ok (.aload_n 0, 1) := by decide +kernel
theorem d_Scr_next_1 : decode M_Scr_next.2.1 1 = .ok (.getfield 47, 3) := by decide +kernel
theorem gf_Scr_47 : GF "HandshakeBinds$Scribe" 47 6 5 := ⟨_, _, _, rfl, by decide, i_Scr, inTB 254 (by decide +kernel) rfl⟩
theorem d_Scr_next_4 : decode M_Scr_next.2.1 4 = .ok (.ifCond .lt 38, 3) := by decide +kernel
theorem d_Scr_next_7 : decode M_Scr_next.2.1 7 = .ok (.aload_n 0, 1) := by decide +kernel
theorem d_Scr_next_8 : decode M_Scr_next.2.1 8 = .ok (.getfield 47, 3) := by decide +kernel
theorem d_Scr_next_11 : decode M_Scr_next.2.1 11 = .ok (.aload_n 0, 1) := by decide +kernel
theorem d_Scr_next_12 : decode M_Scr_next.2.1 12 = .ok (.getfield 29, 3) := by decide +kernel
theorem d_Scr_next_15 : decode M_Scr_next.2.1 15 = .ok (.if_icmp .ge 27, 3) := by decide +kernel
theorem d_Scr_next_42 : decode M_Scr_next.2.1 42 = .ok (.iconst (-1), 1) := by decide +kernel
theorem d_Scr_next_43 : decode M_Scr_next.2.1 43 = .ok (.ireturn, 1) := by decide +kernel
theorem d_Scr_next_18 : decode M_Scr_next.2.1 18 = .ok (.aload_n 0, 1) := by decide +kernel
theorem d_Scr_next_19 : decode M_Scr_next.2.1 19 = .ok (.getfield 47, 3) := by decide +kernel
theorem d_Scr_next_22 : decode M_Scr_next.2.1 22 = .ok (.aload_n 0, 1) := by decide +kernel
theorem d_Scr_next_23 : decode M_Scr_next.2.1 23 = .ok (.getfield 9, 3) := by decide +kernel
theorem d_Scr_next_26 : decode M_Scr_next.2.1 26 = .ok (.arraylength, 1) := by decide +kernel
theorem d_Scr_next_27 : decode M_Scr_next.2.1 27 = .ok (.if_icmp .ge 15, 3) := by decide +kernel
theorem d_Scr_next_30 : decode M_Scr_next.2.1 30 = .ok (.aload_n 0, 1) := by decide +kernel
theorem d_Scr_next_31 : decode M_Scr_next.2.1 31 = .ok (.getfield 9, 3) := by decide +kernel
theorem d_Scr_next_34 : decode M_Scr_next.2.1 34 = .ok (.aload_n 0, 1) := by decide +kernel
theorem d_Scr_next_35 : decode M_Scr_next.2.1 35 = .ok (.getfield 47, 3) := by decide +kernel
theorem d_Scr_next_38 : decode M_Scr_next.2.1 38 = .ok (.iaload, 1) := by decide +kernel
theorem d_Scr_next_39 : decode M_Scr_next.2.1 39 = .ok (.goto 4, 3) := by decide +kernel
def M_Scr_take : XM := (⟨"HandshakeBinds$Scribe", "take", "(I)Z"⟩, prog_8_method_11_code, 2, (some .boolean))
theorem d_Scr_take_0 : decode M_Scr_take.2.1 0 = .ok (.aload_n 0, 1) := by decide +kernel
theorem d_Scr_take_1 : decode M_Scr_take.2.1 1 = .ok (.invokevirtual 58, 3) := by decide +kernel
theorem ln_Scr_58 : Cond.methodLink "HandshakeBinds$Scribe" 58 M_Scr_next.1 ∈ TB := inTB 527 (by decide +kernel) rfl
theorem lk_Scr_next : LVt M_Scr_next 0 := ⟨⟨inTB 68 (by decide +kernel) rfl, inTB 530 (by decide +kernel) rfl, ⟨by decide, by decide, by decide +kernel⟩, by decide⟩, inTB 529 (by decide +kernel) rfl, inTB 9 (by decide +kernel) rfl⟩
theorem d_Scr_take_4 : decode M_Scr_take.2.1 4 = .ok (.iload_n 1, 1) := by decide +kernel
theorem d_Scr_take_5 : decode M_Scr_take.2.1 5 = .ok (.if_icmp .eq 5, 3) := by decide +kernel
theorem d_Scr_take_10 : decode M_Scr_take.2.1 10 = .ok (.aload_n 0, 1) := by decide +kernel
theorem d_Scr_take_11 : decode M_Scr_take.2.1 11 = .ok (.dup, 1) := by decide +kernel
theorem d_Scr_take_12 : decode M_Scr_take.2.1 12 = .ok (.getfield 47, 3) := by decide +kernel
theorem d_Scr_take_15 : decode M_Scr_take.2.1 15 = .ok (.iconst 1, 1) := by decide +kernel
theorem d_Scr_take_16 : decode M_Scr_take.2.1 16 = .ok (.iadd, 1) := by decide +kernel
theorem d_Scr_take_17 : decode M_Scr_take.2.1 17 = .ok (.putfield 47, 3) := by decide +kernel
theorem pf_Scr_47 : PF "HandshakeBinds$Scribe" 47 6 5 (.int) false := ⟨_, _, _, t_Scr, rfl, by decide, i_Scr, t_Scr_ok, n_Scr, inTB 254 (by decide +kernel) rfl, rfl, t_Scr_ok 5 (by decide), fun _ => rfl⟩
theorem d_Scr_take_20 : decode M_Scr_take.2.1 20 = .ok (.iconst 1, 1) := by decide +kernel
theorem d_Scr_take_21 : decode M_Scr_take.2.1 21 = .ok (.ireturn, 1) := by decide +kernel
theorem d_Scr_take_8 : decode M_Scr_take.2.1 8 = .ok (.iconst 0, 1) := by decide +kernel
theorem d_Scr_take_9 : decode M_Scr_take.2.1 9 = .ok (.ireturn, 1) := by decide +kernel
def M_Scr_readNumber : XM := (⟨"HandshakeBinds$Scribe", "readNumber", "()I"⟩, prog_8_method_9_code, 4, (some .int))
theorem d_Scr_readNumber_0 : decode M_Scr_readNumber.2.1 0 = .ok (.iconst (-1), 1) := by decide +kernel
theorem d_Scr_readNumber_1 : decode M_Scr_readNumber.2.1 1 = .ok (.istore_n 1, 1) := by decide +kernel
theorem d_Scr_readNumber_2 : decode M_Scr_readNumber.2.1 2 = .ok (.iconst 0, 1) := by decide +kernel
theorem d_Scr_readNumber_3 : decode M_Scr_readNumber.2.1 3 = .ok (.istore_n 2, 1) := by decide +kernel
theorem d_Scr_readNumber_4 : decode M_Scr_readNumber.2.1 4 = .ok (.iload_n 2, 1) := by decide +kernel
theorem d_Scr_readNumber_5 : decode M_Scr_readNumber.2.1 5 = .ok (.iconst 2, 1) := by decide +kernel
theorem d_Scr_readNumber_6 : decode M_Scr_readNumber.2.1 6 = .ok (.if_icmp .ge 52, 3) := by decide +kernel
theorem d_Scr_readNumber_9 : decode M_Scr_readNumber.2.1 9 = .ok (.aload_n 0, 1) := by decide +kernel
theorem d_Scr_readNumber_10 : decode M_Scr_readNumber.2.1 10 = .ok (.invokevirtual 58, 3) := by decide +kernel
theorem d_Scr_readNumber_13 : decode M_Scr_readNumber.2.1 13 = .ok (.istore_n 3, 1) := by decide +kernel
theorem d_Scr_readNumber_14 : decode M_Scr_readNumber.2.1 14 = .ok (.iload_n 3, 1) := by decide +kernel
theorem d_Scr_readNumber_15 : decode M_Scr_readNumber.2.1 15 = .ok (.bipush 48, 2) := by decide +kernel
theorem d_Scr_readNumber_17 : decode M_Scr_readNumber.2.1 17 = .ok (.if_icmp .lt 9, 3) := by decide +kernel
theorem d_Scr_readNumber_26 : decode M_Scr_readNumber.2.1 26 = .ok (.iload_n 1, 1) := by decide +kernel
theorem d_Scr_readNumber_27 : decode M_Scr_readNumber.2.1 27 = .ok (.ireturn, 1) := by decide +kernel
theorem d_Scr_readNumber_20 : decode M_Scr_readNumber.2.1 20 = .ok (.iload_n 3, 1) := by decide +kernel
theorem d_Scr_readNumber_21 : decode M_Scr_readNumber.2.1 21 = .ok (.bipush 57, 2) := by decide +kernel
theorem d_Scr_readNumber_23 : decode M_Scr_readNumber.2.1 23 = .ok (.if_icmp .le 5, 3) := by decide +kernel
theorem d_Scr_readNumber_28 : decode M_Scr_readNumber.2.1 28 = .ok (.iload_n 1, 1) := by decide +kernel
theorem d_Scr_readNumber_29 : decode M_Scr_readNumber.2.1 29 = .ok (.iconst 0, 1) := by decide +kernel
theorem d_Scr_readNumber_30 : decode M_Scr_readNumber.2.1 30 = .ok (.invokestatic 102, 3) := by decide +kernel
theorem d_Scr_readNumber_33 : decode M_Scr_readNumber.2.1 33 = .ok (.bipush 10, 2) := by decide +kernel
theorem d_Scr_readNumber_35 : decode M_Scr_readNumber.2.1 35 = .ok (.imul, 1) := by decide +kernel
theorem d_Scr_readNumber_36 : decode M_Scr_readNumber.2.1 36 = .ok (.iload_n 3, 1) := by decide +kernel
theorem d_Scr_readNumber_37 : decode M_Scr_readNumber.2.1 37 = .ok (.iadd, 1) := by decide +kernel
theorem d_Scr_readNumber_38 : decode M_Scr_readNumber.2.1 38 = .ok (.bipush 48, 2) := by decide +kernel
theorem d_Scr_readNumber_40 : decode M_Scr_readNumber.2.1 40 = .ok (.isub, 1) := by decide +kernel
theorem d_Scr_readNumber_41 : decode M_Scr_readNumber.2.1 41 = .ok (.istore_n 1, 1) := by decide +kernel
theorem d_Scr_readNumber_42 : decode M_Scr_readNumber.2.1 42 = .ok (.aload_n 0, 1) := by decide +kernel
theorem d_Scr_readNumber_43 : decode M_Scr_readNumber.2.1 43 = .ok (.dup, 1) := by decide +kernel
theorem d_Scr_readNumber_44 : decode M_Scr_readNumber.2.1 44 = .ok (.getfield 47, 3) := by decide +kernel
theorem d_Scr_readNumber_47 : decode M_Scr_readNumber.2.1 47 = .ok (.iconst 1, 1) := by decide +kernel
theorem d_Scr_readNumber_48 : decode M_Scr_readNumber.2.1 48 = .ok (.iadd, 1) := by decide +kernel
theorem d_Scr_readNumber_49 : decode M_Scr_readNumber.2.1 49 = .ok (.putfield 47, 3) := by decide +kernel
theorem d_Scr_readNumber_52 : decode M_Scr_readNumber.2.1 52 = .ok (.iinc 2 1, 3) := by decide +kernel
theorem d_Scr_readNumber_55 : decode M_Scr_readNumber.2.1 55 = .ok (.goto (-51), 3) := by decide +kernel
theorem d_Scr_readNumber_58 : decode M_Scr_readNumber.2.1 58 = .ok (.iload_n 1, 1) := by decide +kernel
theorem d_Scr_readNumber_59 : decode M_Scr_readNumber.2.1 59 = .ok (.ireturn, 1) := by decide +kernel
def M_Scr_readTest : XM := (⟨"HandshakeBinds$Scribe", "readTest", "()Z"⟩, prog_8_method_8_code, 4, (some .boolean))
theorem d_Scr_readTest_0 : decode M_Scr_readTest.2.1 0 = .ok (.aload_n 0, 1) := by decide +kernel
theorem d_Scr_readTest_1 : decode M_Scr_readTest.2.1 1 = .ok (.invokevirtual 58, 3) := by decide +kernel
theorem d_Scr_readTest_4 : decode M_Scr_readTest.2.1 4 = .ok (.istore_n 1, 1) := by decide +kernel
theorem d_Scr_readTest_61 : decode M_Scr_readTest.2.1 61 = .ok (.aload_n 0, 1) := by decide +kernel
theorem d_Scr_readTest_62 : decode M_Scr_readTest.2.1 62 = .ok (.invokevirtual 58, 3) := by decide +kernel
theorem d_Scr_readTest_65 : decode M_Scr_readTest.2.1 65 = .ok (.istore_n 2, 1) := by decide +kernel
theorem d_Scr_readTest_95 : decode M_Scr_readTest.2.1 95 = .ok (.aload_n 0, 1) := by decide +kernel
theorem d_Scr_readTest_96 : decode M_Scr_readTest.2.1 96 = .ok (.invokevirtual 77, 3) := by decide +kernel
theorem ln_Scr_77 : Cond.methodLink "HandshakeBinds$Scribe" 77 M_Scr_readNumber.1 ∈ TB := inTB 586 (by decide +kernel) rfl
theorem lk_Scr_readNumber : LVt M_Scr_readNumber 0 := ⟨⟨inTB 68 (by decide +kernel) rfl, inTB 589 (by decide +kernel) rfl, ⟨by decide, by decide, by decide +kernel⟩, by decide⟩, inTB 588 (by decide +kernel) rfl, inTB 11 (by decide +kernel) rfl⟩
theorem d_Scr_readTest_99 : decode M_Scr_readTest.2.1 99 = .ok (.istore_n 3, 1) := by decide +kernel
theorem d_Scr_readTest_100 : decode M_Scr_readTest.2.1 100 = .ok (.iload_n 3, 1) := by decide +kernel
theorem d_Scr_readTest_101 : decode M_Scr_readTest.2.1 101 = .ok (.ifCond .ge 5, 3) := by decide +kernel
theorem d_Scr_readTest_106 : decode M_Scr_readTest.2.1 106 = .ok (.aload_n 0, 1) := by decide +kernel
theorem d_Scr_readTest_107 : decode M_Scr_readTest.2.1 107 = .ok (.getfield 26, 3) := by decide +kernel
theorem gf_Scr_26 : GF "HandshakeBinds$Scribe" 26 6 6 := ⟨_, _, _, rfl, by decide, i_Scr, inTB 255 (by decide +kernel) rfl⟩
theorem d_Scr_readTest_110 : decode M_Scr_readTest.2.1 110 = .ok (.iload_n 1, 1) := by decide +kernel
theorem d_Scr_readTest_111 : decode M_Scr_readTest.2.1 111 = .ok (.iload_n 2, 1) := by decide +kernel
theorem d_Scr_readTest_112 : decode M_Scr_readTest.2.1 112 = .ok (.iload_n 3, 1) := by decide +kernel
theorem d_Scr_readTest_113 : decode M_Scr_readTest.2.1 113 = .ok (.invokevirtual 98, 3) := by decide +kernel
theorem ln_Scr_98 : Cond.methodLink "HandshakeBinds$Scribe" 98 M_Exc_addTest.1 ∈ TB := inTB 608 (by decide +kernel) rfl
theorem lk_Exc_addTest : LVt M_Exc_addTest 3 := ⟨⟨inTB 69 (by decide +kernel) rfl, inTB 611 (by decide +kernel) rfl, ⟨by decide, by decide, by decide +kernel⟩, by decide⟩, inTB 609 (by decide +kernel) rfl, inTB 610 (by decide +kernel) rfl⟩
theorem d_Scr_readTest_116 : decode M_Scr_readTest.2.1 116 = .ok (.iconst 1, 1) := by decide +kernel
theorem d_Scr_readTest_117 : decode M_Scr_readTest.2.1 117 = .ok (.ireturn, 1) := by decide +kernel
theorem d_Scr_readTest_104 : decode M_Scr_readTest.2.1 104 = .ok (.iconst 0, 1) := by decide +kernel
theorem d_Scr_readTest_105 : decode M_Scr_readTest.2.1 105 = .ok (.ireturn, 1) := by decide +kernel
theorem d_Scr_readTest_66 : decode M_Scr_readTest.2.1 66 = .ok (.aload_n 0, 1) := by decide +kernel
theorem d_Scr_readTest_67 : decode M_Scr_readTest.2.1 67 = .ok (.bipush 60, 2) := by decide +kernel
theorem d_Scr_readTest_69 : decode M_Scr_readTest.2.1 69 = .ok (.invokevirtual 54, 3) := by decide +kernel
theorem ln_Scr_54 : Cond.methodLink "HandshakeBinds$Scribe" 54 M_Scr_take.1 ∈ TB := inTB 582 (by decide +kernel) rfl
theorem lk_Scr_take : LVt M_Scr_take 1 := ⟨⟨inTB 68 (by decide +kernel) rfl, inTB 585 (by decide +kernel) rfl, ⟨by decide, by decide, by decide +kernel⟩, by decide⟩, inTB 584 (by decide +kernel) rfl, inTB 10 (by decide +kernel) rfl⟩
theorem d_Scr_readTest_72 : decode M_Scr_readTest.2.1 72 = .ok (.ifCond .ne 23, 3) := by decide +kernel
theorem d_Scr_readTest_75 : decode M_Scr_readTest.2.1 75 = .ok (.aload_n 0, 1) := by decide +kernel
theorem d_Scr_readTest_76 : decode M_Scr_readTest.2.1 76 = .ok (.bipush 61, 2) := by decide +kernel
theorem d_Scr_readTest_78 : decode M_Scr_readTest.2.1 78 = .ok (.invokevirtual 54, 3) := by decide +kernel
theorem d_Scr_readTest_81 : decode M_Scr_readTest.2.1 81 = .ok (.ifCond .ne 14, 3) := by decide +kernel
theorem d_Scr_readTest_84 : decode M_Scr_readTest.2.1 84 = .ok (.aload_n 0, 1) := by decide +kernel
theorem d_Scr_readTest_85 : decode M_Scr_readTest.2.1 85 = .ok (.bipush 62, 2) := by decide +kernel
theorem d_Scr_readTest_87 : decode M_Scr_readTest.2.1 87 = .ok (.invokevirtual 54, 3) := by decide +kernel
theorem d_Scr_readTest_90 : decode M_Scr_readTest.2.1 90 = .ok (.ifCond .ne 5, 3) := by decide +kernel
theorem d_Scr_readTest_93 : decode M_Scr_readTest.2.1 93 = .ok (.iconst 0, 1) := by decide +kernel
theorem d_Scr_readTest_94 : decode M_Scr_readTest.2.1 94 = .ok (.ireturn, 1) := by decide +kernel
theorem d_Scr_readTest_5 : decode M_Scr_readTest.2.1 5 = .ok (.aload_n 0, 1) := by decide +kernel
theorem d_Scr_readTest_6 : decode M_Scr_readTest.2.1 6 = .ok (.bipush 112, 2) := by decide +kernel
theorem d_Scr_readTest_8 : decode M_Scr_readTest.2.1 8 = .ok (.invokevirtual 54, 3) := by decide +kernel
theorem d_Scr_readTest_11 : decode M_Scr_readTest.2.1 11 = .ok (.ifCond .ne 50, 3) := by decide +kernel
theorem d_Scr_readTest_14 : decode M_Scr_readTest.2.1 14 = .ok (.aload_n 0, 1) := by decide +kernel
theorem d_Scr_readTest_15 : decode M_Scr_readTest.2.1 15 = .ok (.bipush 113, 2) := by decide +kernel
theorem d_Scr_readTest_17 : decode M_Scr_readTest.2.1 17 = .ok (.invokevirtual 54, 3) := by decide +kernel
theorem d_Scr_readTest_20 : decode M_Scr_readTest.2.1 20 = .ok (.ifCond .ne 41, 3) := by decide +kernel
theorem d_Scr_readTest_23 : decode M_Scr_readTest.2.1 23 = .ok (.aload_n 0, 1) := by decide +kernel
theorem d_Scr_readTest_24 : decode M_Scr_readTest.2.1 24 = .ok (.bipush 107, 2) := by decide +kernel
theorem d_Scr_readTest_26 : decode M_Scr_readTest.2.1 26 = .ok (.invokevirtual 54, 3) := by decide +kernel
theorem d_Scr_readTest_29 : decode M_Scr_readTest.2.1 29 = .ok (.ifCond .ne 32, 3) := by decide +kernel
theorem d_Scr_readTest_32 : decode M_Scr_readTest.2.1 32 = .ok (.aload_n 0, 1) := by decide +kernel
theorem d_Scr_readTest_33 : decode M_Scr_readTest.2.1 33 = .ok (.bipush 118, 2) := by decide +kernel
theorem d_Scr_readTest_35 : decode M_Scr_readTest.2.1 35 = .ok (.invokevirtual 54, 3) := by decide +kernel
theorem d_Scr_readTest_38 : decode M_Scr_readTest.2.1 38 = .ok (.ifCond .ne 23, 3) := by decide +kernel
theorem d_Scr_readTest_41 : decode M_Scr_readTest.2.1 41 = .ok (.aload_n 0, 1) := by decide +kernel
theorem d_Scr_readTest_42 : decode M_Scr_readTest.2.1 42 = .ok (.bipush 115, 2) := by decide +kernel
theorem d_Scr_readTest_44 : decode M_Scr_readTest.2.1 44 = .ok (.invokevirtual 54, 3) := by decide +kernel
theorem d_Scr_readTest_47 : decode M_Scr_readTest.2.1 47 = .ok (.ifCond .ne 14, 3) := by decide +kernel
theorem d_Scr_readTest_50 : decode M_Scr_readTest.2.1 50 = .ok (.aload_n 0, 1) := by decide +kernel
theorem d_Scr_readTest_51 : decode M_Scr_readTest.2.1 51 = .ok (.bipush 100, 2) := by decide +kernel
theorem d_Scr_readTest_53 : decode M_Scr_readTest.2.1 53 = .ok (.invokevirtual 54, 3) := by decide +kernel
theorem d_Scr_readTest_56 : decode M_Scr_readTest.2.1 56 = .ok (.ifCond .ne 5, 3) := by decide +kernel
theorem d_Scr_readTest_59 : decode M_Scr_readTest.2.1 59 = .ok (.iconst 0, 1) := by decide +kernel
theorem d_Scr_readTest_60 : decode M_Scr_readTest.2.1 60 = .ok (.ireturn, 1) := by decide +kernel
def M_Scr_readFactor : XM := (⟨"HandshakeBinds$Scribe", "readFactor", "(I)Z"⟩, prog_8_method_7_code, 2, (some .boolean))
def M_Scr_readCondition : XM := (⟨"HandshakeBinds$Scribe", "readCondition", "(I)Z"⟩, prog_8_method_6_code, 4, (some .boolean))
theorem d_Scr_readFactor_0 : decode M_Scr_readFactor.2.1 0 = .ok (.iload_n 1, 1) := by decide +kernel
theorem d_Scr_readFactor_1 : decode M_Scr_readFactor.2.1 1 = .ok (.iconst 4, 1) := by decide +kernel
theorem d_Scr_readFactor_2 : decode M_Scr_readFactor.2.1 2 = .ok (.if_icmp .ge 68, 3) := by decide +kernel
theorem d_Scr_readFactor_70 : decode M_Scr_readFactor.2.1 70 = .ok (.aload_n 0, 1) := by decide +kernel
theorem d_Scr_readFactor_71 : decode M_Scr_readFactor.2.1 71 = .ok (.invokevirtual 95, 3) := by decide +kernel
theorem ln_Scr_95 : Cond.methodLink "HandshakeBinds$Scribe" 95 M_Scr_readTest.1 ∈ TB := inTB 604 (by decide +kernel) rfl
theorem lk_Scr_readTest : LVt M_Scr_readTest 0 := ⟨⟨inTB 68 (by decide +kernel) rfl, inTB 607 (by decide +kernel) rfl, ⟨by decide, by decide, by decide +kernel⟩, by decide⟩, inTB 606 (by decide +kernel) rfl, inTB 14 (by decide +kernel) rfl⟩
theorem d_Scr_readFactor_74 : decode M_Scr_readFactor.2.1 74 = .ok (.ireturn, 1) := by decide +kernel
theorem SV_c {X : Xn} {a : Nat → Nat} {gg : Nat → Option Nat} {m : Nat} {T : Nat → Int32} {n kn p k k2 C b : Nat} {c c2 s w : Nat → Int32} (h1 : k = k2) (h2 : c = c2) : SV X a gg m T n kn p k C b c s w = SV X a gg m T n kn p k2 C b c2 s w := by rw [h1, h2]
theorem putS_3 {c : Nat → Int32} {k : Nat} {l m : List Nat} {y : Int32} (t : Nat) (ht : stp t = y) : upd (putS (putS c k l) (k + l.length) m) (k + l.length + m.length) y = putS c k (l ++ (m ++ [t])) := by
  subst ht
  rw [putS_s, putS_app]
theorem putS_4 {c : Nat → Int32} {k : Nat} {l m : List Nat} {y : Int32} (t : Nat) (ht : stp t = y) : putS (upd (putS c k l) (k + l.length) y) (k + l.length + 1) m = putS c k (l ++ ([t] ++ m)) := by
  subst ht
  rw [putS_s, show k + l.length + 1 = k + (l ++ [t]).length by simp [Nat.add_assoc], putS_app, List.append_assoc]
theorem d_Scr_readCondition_0 : decode M_Scr_readCondition.2.1 0 = .ok (.aload_n 0, 1) := by decide +kernel
theorem d_Scr_readCondition_1 : decode M_Scr_readCondition.2.1 1 = .ok (.iload_n 1, 1) := by decide +kernel
theorem d_Scr_readCondition_2 : decode M_Scr_readCondition.2.1 2 = .ok (.invokevirtual 89, 3) := by decide +kernel
theorem ln_Scr_89 : Cond.methodLink "HandshakeBinds$Scribe" 89 M_Scr_readFactor.1 ∈ TB := inTB 595 (by decide +kernel) rfl
theorem lk_Scr_readFactor : LVt M_Scr_readFactor 1 := ⟨⟨inTB 68 (by decide +kernel) rfl, inTB 598 (by decide +kernel) rfl, ⟨by decide, by decide, by decide +kernel⟩, by decide⟩, inTB 597 (by decide +kernel) rfl, inTB 13 (by decide +kernel) rfl⟩
theorem d_Scr_readCondition_5 : decode M_Scr_readCondition.2.1 5 = .ok (.ifCond .ne 5, 3) := by decide +kernel
theorem d_Scr_readCondition_10 : decode M_Scr_readCondition.2.1 10 = .ok (.iconst 0, 1) := by decide +kernel
theorem d_Scr_readCondition_11 : decode M_Scr_readCondition.2.1 11 = .ok (.istore_n 2, 1) := by decide +kernel
theorem d_Scr_readCondition_12 : decode M_Scr_readCondition.2.1 12 = .ok (.iconst 0, 1) := by decide +kernel
theorem d_Scr_readCondition_13 : decode M_Scr_readCondition.2.1 13 = .ok (.istore_n 3, 1) := by decide +kernel
theorem d_Scr_readCondition_14 : decode M_Scr_readCondition.2.1 14 = .ok (.iload_n 3, 1) := by decide +kernel
theorem d_Scr_readCondition_15 : decode M_Scr_readCondition.2.1 15 = .ok (.bipush 100, 2) := by decide +kernel
theorem d_Scr_readCondition_17 : decode M_Scr_readCondition.2.1 17 = .ok (.if_icmp .ge 76, 3) := by decide +kernel
theorem d_Scr_readCondition_93 : decode M_Scr_readCondition.2.1 93 = .ok (.iconst 0, 1) := by decide +kernel
theorem d_Scr_readCondition_94 : decode M_Scr_readCondition.2.1 94 = .ok (.ireturn, 1) := by decide +kernel
theorem d_Scr_readCondition_20 : decode M_Scr_readCondition.2.1 20 = .ok (.aload_n 0, 1) := by decide +kernel
theorem d_Scr_readCondition_21 : decode M_Scr_readCondition.2.1 21 = .ok (.bipush 38, 2) := by decide +kernel
theorem d_Scr_readCondition_23 : decode M_Scr_readCondition.2.1 23 = .ok (.invokevirtual 54, 3) := by decide +kernel
theorem d_Scr_readCondition_26 : decode M_Scr_readCondition.2.1 26 = .ok (.ifCond .eq 25, 3) := by decide +kernel
theorem d_Scr_readCondition_51 : decode M_Scr_readCondition.2.1 51 = .ok (.iload_n 2, 1) := by decide +kernel
theorem d_Scr_readCondition_52 : decode M_Scr_readCondition.2.1 52 = .ok (.ifCond .eq 12, 3) := by decide +kernel
theorem d_Scr_readCondition_64 : decode M_Scr_readCondition.2.1 64 = .ok (.aload_n 0, 1) := by decide +kernel
theorem d_Scr_readCondition_65 : decode M_Scr_readCondition.2.1 65 = .ok (.bipush 124, 2) := by decide +kernel
theorem d_Scr_readCondition_67 : decode M_Scr_readCondition.2.1 67 = .ok (.invokevirtual 54, 3) := by decide +kernel
theorem d_Scr_readCondition_70 : decode M_Scr_readCondition.2.1 70 = .ok (.ifCond .ne 5, 3) := by decide +kernel
theorem d_Scr_readCondition_75 : decode M_Scr_readCondition.2.1 75 = .ok (.aload_n 0, 1) := by decide +kernel
theorem d_Scr_readCondition_76 : decode M_Scr_readCondition.2.1 76 = .ok (.iload_n 1, 1) := by decide +kernel
theorem d_Scr_readCondition_77 : decode M_Scr_readCondition.2.1 77 = .ok (.invokevirtual 89, 3) := by decide +kernel
theorem d_Scr_readCondition_80 : decode M_Scr_readCondition.2.1 80 = .ok (.ifCond .ne 5, 3) := by decide +kernel
theorem d_Scr_readCondition_85 : decode M_Scr_readCondition.2.1 85 = .ok (.iconst 1, 1) := by decide +kernel
theorem d_Scr_readCondition_86 : decode M_Scr_readCondition.2.1 86 = .ok (.istore_n 2, 1) := by decide +kernel
theorem d_Scr_readCondition_87 : decode M_Scr_readCondition.2.1 87 = .ok (.iinc 3 1, 3) := by decide +kernel
theorem d_Scr_readCondition_90 : decode M_Scr_readCondition.2.1 90 = .ok (.goto (-76), 3) := by decide +kernel
theorem d_Scr_readCondition_83 : decode M_Scr_readCondition.2.1 83 = .ok (.iconst 0, 1) := by decide +kernel
theorem d_Scr_readCondition_84 : decode M_Scr_readCondition.2.1 84 = .ok (.ireturn, 1) := by decide +kernel
theorem d_Scr_readCondition_73 : decode M_Scr_readCondition.2.1 73 = .ok (.iconst 1, 1) := by decide +kernel
theorem d_Scr_readCondition_74 : decode M_Scr_readCondition.2.1 74 = .ok (.ireturn, 1) := by decide +kernel
theorem d_Scr_readCondition_55 : decode M_Scr_readCondition.2.1 55 = .ok (.aload_n 0, 1) := by decide +kernel
theorem d_Scr_readCondition_56 : decode M_Scr_readCondition.2.1 56 = .ok (.getfield 26, 3) := by decide +kernel
theorem d_Scr_readCondition_59 : decode M_Scr_readCondition.2.1 59 = .ok (.bipush (-3), 2) := by decide +kernel
theorem d_Scr_readCondition_61 : decode M_Scr_readCondition.2.1 61 = .ok (.invokevirtual 92, 3) := by decide +kernel
theorem ln_Scr_92 : Cond.methodLink "HandshakeBinds$Scribe" 92 M_Exc_addStep.1 ∈ TB := inTB 599 (by decide +kernel) rfl
theorem lk_Exc_addStep : LVt M_Exc_addStep 1 := ⟨⟨inTB 69 (by decide +kernel) rfl, inTB 602 (by decide +kernel) rfl, ⟨by decide, by decide, by decide +kernel⟩, by decide⟩, inTB 600 (by decide +kernel) rfl, inTB 601 (by decide +kernel) rfl⟩
theorem d_Scr_readCondition_29 : decode M_Scr_readCondition.2.1 29 = .ok (.aload_n 0, 1) := by decide +kernel
theorem d_Scr_readCondition_30 : decode M_Scr_readCondition.2.1 30 = .ok (.iload_n 1, 1) := by decide +kernel
theorem d_Scr_readCondition_31 : decode M_Scr_readCondition.2.1 31 = .ok (.invokevirtual 89, 3) := by decide +kernel
theorem d_Scr_readCondition_34 : decode M_Scr_readCondition.2.1 34 = .ok (.ifCond .ne 5, 3) := by decide +kernel
theorem d_Scr_readCondition_39 : decode M_Scr_readCondition.2.1 39 = .ok (.aload_n 0, 1) := by decide +kernel
theorem d_Scr_readCondition_40 : decode M_Scr_readCondition.2.1 40 = .ok (.getfield 26, 3) := by decide +kernel
theorem d_Scr_readCondition_43 : decode M_Scr_readCondition.2.1 43 = .ok (.bipush (-2), 2) := by decide +kernel
theorem d_Scr_readCondition_45 : decode M_Scr_readCondition.2.1 45 = .ok (.invokevirtual 92, 3) := by decide +kernel
theorem d_Scr_readCondition_48 : decode M_Scr_readCondition.2.1 48 = .ok (.goto 39, 3) := by decide +kernel
theorem d_Scr_readCondition_37 : decode M_Scr_readCondition.2.1 37 = .ok (.iconst 0, 1) := by decide +kernel
theorem d_Scr_readCondition_38 : decode M_Scr_readCondition.2.1 38 = .ok (.ireturn, 1) := by decide +kernel
theorem d_Scr_readCondition_8 : decode M_Scr_readCondition.2.1 8 = .ok (.iconst 0, 1) := by decide +kernel
theorem d_Scr_readCondition_9 : decode M_Scr_readCondition.2.1 9 = .ok (.ireturn, 1) := by decide +kernel
theorem d_Scr_readFactor_5 : decode M_Scr_readFactor.2.1 5 = .ok (.aload_n 0, 1) := by decide +kernel
theorem d_Scr_readFactor_6 : decode M_Scr_readFactor.2.1 6 = .ok (.bipush 33, 2) := by decide +kernel
theorem d_Scr_readFactor_8 : decode M_Scr_readFactor.2.1 8 = .ok (.invokevirtual 54, 3) := by decide +kernel
theorem d_Scr_readFactor_11 : decode M_Scr_readFactor.2.1 11 = .ok (.ifCond .eq 25, 3) := by decide +kernel
theorem d_Scr_readFactor_36 : decode M_Scr_readFactor.2.1 36 = .ok (.aload_n 0, 1) := by decide +kernel
theorem d_Scr_readFactor_37 : decode M_Scr_readFactor.2.1 37 = .ok (.bipush 40, 2) := by decide +kernel
theorem d_Scr_readFactor_39 : decode M_Scr_readFactor.2.1 39 = .ok (.invokevirtual 54, 3) := by decide +kernel
theorem d_Scr_readFactor_42 : decode M_Scr_readFactor.2.1 42 = .ok (.ifCond .eq 28, 3) := by decide +kernel
theorem d_Scr_readFactor_45 : decode M_Scr_readFactor.2.1 45 = .ok (.aload_n 0, 1) := by decide +kernel
theorem d_Scr_readFactor_46 : decode M_Scr_readFactor.2.1 46 = .ok (.iload_n 1, 1) := by decide +kernel
theorem d_Scr_readFactor_47 : decode M_Scr_readFactor.2.1 47 = .ok (.iconst 1, 1) := by decide +kernel
theorem d_Scr_readFactor_48 : decode M_Scr_readFactor.2.1 48 = .ok (.iadd, 1) := by decide +kernel
theorem d_Scr_readFactor_49 : decode M_Scr_readFactor.2.1 49 = .ok (.invokevirtual 82, 3) := by decide +kernel
theorem ln_Scr_82 : Cond.methodLink "HandshakeBinds$Scribe" 82 M_Scr_readCondition.1 ∈ TB := inTB 591 (by decide +kernel) rfl
theorem lk_Scr_readCondition : LVt M_Scr_readCondition 1 := ⟨⟨inTB 68 (by decide +kernel) rfl, inTB 594 (by decide +kernel) rfl, ⟨by decide, by decide, by decide +kernel⟩, by decide⟩, inTB 593 (by decide +kernel) rfl, inTB 12 (by decide +kernel) rfl⟩
theorem d_Scr_readFactor_52 : decode M_Scr_readFactor.2.1 52 = .ok (.ifCond .eq 16, 3) := by decide +kernel
theorem d_Scr_readFactor_68 : decode M_Scr_readFactor.2.1 68 = .ok (.iconst 0, 1) := by decide +kernel
theorem d_Scr_readFactor_69 : decode M_Scr_readFactor.2.1 69 = .ok (.ireturn, 1) := by decide +kernel
theorem d_Scr_readFactor_55 : decode M_Scr_readFactor.2.1 55 = .ok (.aload_n 0, 1) := by decide +kernel
theorem d_Scr_readFactor_56 : decode M_Scr_readFactor.2.1 56 = .ok (.bipush 41, 2) := by decide +kernel
theorem d_Scr_readFactor_58 : decode M_Scr_readFactor.2.1 58 = .ok (.invokevirtual 54, 3) := by decide +kernel
theorem d_Scr_readFactor_61 : decode M_Scr_readFactor.2.1 61 = .ok (.ifCond .eq 7, 3) := by decide +kernel
theorem d_Scr_readFactor_64 : decode M_Scr_readFactor.2.1 64 = .ok (.iconst 1, 1) := by decide +kernel
theorem d_Scr_readFactor_65 : decode M_Scr_readFactor.2.1 65 = .ok (.goto 4, 3) := by decide +kernel
theorem d_Scr_readFactor_14 : decode M_Scr_readFactor.2.1 14 = .ok (.aload_n 0, 1) := by decide +kernel
theorem d_Scr_readFactor_15 : decode M_Scr_readFactor.2.1 15 = .ok (.iload_n 1, 1) := by decide +kernel
theorem d_Scr_readFactor_16 : decode M_Scr_readFactor.2.1 16 = .ok (.iconst 1, 1) := by decide +kernel
theorem d_Scr_readFactor_17 : decode M_Scr_readFactor.2.1 17 = .ok (.iadd, 1) := by decide +kernel
theorem d_Scr_readFactor_18 : decode M_Scr_readFactor.2.1 18 = .ok (.invokevirtual 89, 3) := by decide +kernel
theorem d_Scr_readFactor_21 : decode M_Scr_readFactor.2.1 21 = .ok (.ifCond .ne 5, 3) := by decide +kernel
theorem d_Scr_readFactor_26 : decode M_Scr_readFactor.2.1 26 = .ok (.aload_n 0, 1) := by decide +kernel
theorem d_Scr_readFactor_27 : decode M_Scr_readFactor.2.1 27 = .ok (.getfield 26, 3) := by decide +kernel
theorem d_Scr_readFactor_30 : decode M_Scr_readFactor.2.1 30 = .ok (.iconst (-1), 1) := by decide +kernel
theorem d_Scr_readFactor_31 : decode M_Scr_readFactor.2.1 31 = .ok (.invokevirtual 92, 3) := by decide +kernel
theorem d_Scr_readFactor_34 : decode M_Scr_readFactor.2.1 34 = .ok (.iconst 1, 1) := by decide +kernel
theorem d_Scr_readFactor_35 : decode M_Scr_readFactor.2.1 35 = .ok (.ireturn, 1) := by decide +kernel
theorem d_Scr_readFactor_24 : decode M_Scr_readFactor.2.1 24 = .ok (.iconst 0, 1) := by decide +kernel
theorem d_Scr_readFactor_25 : decode M_Scr_readFactor.2.1 25 = .ok (.ireturn, 1) := by decide +kernel
theorem c_Scr_next (X : Xn) (a : Nat → Nat) (gg : Nat → Option Nat) (T : Nat → Int32) (n kn p k C b : Nat) (c s w : Nat → Int32) (tx : Nat → Nat) (hn : n ≤ 100) (hT : ∀ j, j < n → T j = nI (tx j)) (hct : ∀ j, tx j < 128)  (hp : p ≤ n) : Does X 1 M_Scr_next [.ref (a 0)] (SV X a gg (a 3) T n kn p k C b c s w) 0 0 (fun (vv : Option Value) (ww : va_W) => vv = some (.int (nx n tx p)) ∧ ww = SV X a gg (a 3) T n kn p k C b c s w) := by
  generalize hQ : (fun (vv : Option Value) (ww : va_W) => vv = some (.int (nx n tx p)) ∧ ww = SV X a gg (a 3) T n kn p k C b c s w) = Q
  refine Does.go rfl (Nat.le_of_ble_eq_true rfl) [some (.ref (a 0))] 0 rfl ?_
  refine r_aload_n rfl 1 rfl d_Scr_next_0 ?_
  refine r_getf (v := .int (nI p)) gf_Scr_47 0 rfl rfl 4 rfl d_Scr_next_1 ?_
  refine r_if_ltN_f p (by omega) 7 rfl 42 rfl d_Scr_next_4 (Nat.zero_le _) ?_
  refine r_aload_n rfl 8 rfl d_Scr_next_7 ?_
  refine r_getf (v := .int (nI p)) gf_Scr_47 0 rfl rfl 11 rfl d_Scr_next_8 ?_
  refine r_aload_n rfl 12 rfl d_Scr_next_11 ?_
  refine r_getf (v := .int (nI n)) gf_Scr_29 0 rfl rfl 15 rfl d_Scr_next_12 ?_
  refine r_icmp_geN p n (by omega) (by omega) 18 42 rfl rfl d_Scr_next_15 (fun h15 => ?_) (fun h15 => ?_)
  · refine r_iconst ((-1)) rfl 43 rfl d_Scr_next_42 ?_
    exact r_iret rfl (Nat.zero_le _) (Nat.zero_le _) d_Scr_next_43 (by rw [← hQ]; exact ⟨by rw [nx_out (by omega)], rfl⟩)
  · refine r_aload_n rfl 19 rfl d_Scr_next_18 ?_
    refine r_getf (v := .int (nI p)) gf_Scr_47 0 rfl rfl 22 rfl d_Scr_next_19 ?_
    refine r_aload_n rfl 23 rfl d_Scr_next_22 ?_
    refine r_getf (v := .ref (a 1)) gf_Scr_9 0 rfl rfl 26 rfl d_Scr_next_23 ?_
    refine r_alenI 1 rfl 27 rfl d_Scr_next_26 ?_
    refine r_icmp_geN_f p 100 (by omega) (by omega) 30 rfl 42 rfl d_Scr_next_27 (by omega) ?_
    refine r_aload_n rfl 31 rfl d_Scr_next_30 ?_
    refine r_getf (v := .ref (a 1)) gf_Scr_9 0 rfl rfl 34 rfl d_Scr_next_31 ?_
    refine r_aload_n rfl 35 rfl d_Scr_next_34 ?_
    refine r_getf (v := .int (nI p)) gf_Scr_47 0 rfl rfl 38 rfl d_Scr_next_35 ?_
    refine r_iald (f := T) 1 rfl p rfl (by omega) (by omega) 39 rfl d_Scr_next_38 ?_
    refine r_topi (nx n tx p) (by rw [nx_in h15]; exact hT p h15) ?_
    refine r_goto 43 rfl d_Scr_next_39 ?_
    exact r_iret rfl (Nat.zero_le _) (Nat.zero_le _) d_Scr_next_43 (by rw [← hQ]; exact ⟨rfl, rfl⟩)
theorem c_Scr_take (X : Xn) (a : Nat → Nat) (gg : Nat → Option Nat) (T : Nat → Int32) (n kn p k C b : Nat) (c s w : Nat → Int32) (tx : Nat → Nat) (hn : n ≤ 100) (hT : ∀ j, j < n → T j = nI (tx j)) (hct : ∀ j, tx j < 128) (ch : Nat) (hp : p ≤ n) (hch : ch < 128) : Does X 2 M_Scr_take [.ref (a 0), .int (nI ch)] (SV X a gg (a 3) T n kn p k C b c s w) 0 0 (fun (vv : Option Value) (ww : va_W) => vv = some (.int (bI (aIs n tx ch p))) ∧ ww = SV X a gg (a 3) T n kn (tkP n tx ch p) k C b c s w) := by
  generalize hQ : (fun (vv : Option Value) (ww : va_W) => vv = some (.int (bI (aIs n tx ch p))) ∧ ww = SV X a gg (a 3) T n kn (tkP n tx ch p) k C b c s w) = Q
  refine Does.go rfl (Nat.le_of_ble_eq_true rfl) [some (.ref (a 0)), some (.int (nI ch))] 0 rfl ?_
  refine r_aload_n rfl 1 rfl d_Scr_take_0 ?_
  refine r_callVA1 (st2 := [.int (nx n tx p)]) (w2 := SV X a gg (a 3) T n kn p k C b c s w) lk_Scr_next ln_Scr_58 (c_Scr_next X a gg T n kn p k C b c s w tx hn hT hct (by omega)) (by first | decide | omega) rfl rfl (Nat.le_of_ble_eq_true rfl) (Nat.le_of_ble_eq_true rfl) (Nat.le_of_ble_eq_true rfl) 0 rfl rfl rfl rfl 4 rfl d_Scr_take_1 ?_
  refine r_iload_n rfl 5 rfl d_Scr_take_4 ?_
  refine r_icmp_eq 8 10 rfl rfl d_Scr_take_5 (fun h5 => ?_) (fun h5 => ?_)
  · refine r_aload_n rfl 11 rfl d_Scr_take_10 ?_
    refine r_dup rfl 12 rfl d_Scr_take_11 ?_
    refine r_getf (v := .int (nI p)) gf_Scr_47 0 rfl rfl 15 rfl d_Scr_take_12 ?_
    refine r_iconst (nI 1) rfl 16 rfl d_Scr_take_15 ?_
    refine r_iadd 17 rfl d_Scr_take_16 ?_
    refine r_topi (nI (p + 1)) (nI_add _ _) ?_
    refine r_putf (w2 := SV X a gg (a 3) T n kn (p + 1) k C b c s w) pf_Scr_47 0 rfl (rfl) rfl (Nat.le_of_ble_eq_true rfl) rfl 20 rfl d_Scr_take_17 ?_
    refine r_iconst (nI 1) rfl 21 rfl d_Scr_take_20 ?_
    exact r_zret rfl (rfl) (Nat.zero_le _) (Nat.zero_le _) d_Scr_take_21 (by rw [← hQ]; exact ⟨vB_t (nx_t hp hct hch h5), by rw [tkP_t (nx_t hp hct hch h5)]⟩)
  · refine r_iconst (nI 0) rfl 9 rfl d_Scr_take_8 ?_
    exact r_zret rfl (rfl) (Nat.zero_le _) (Nat.zero_le _) d_Scr_take_9 (by rw [← hQ]; exact ⟨vB_f (nx_f hp hct hch h5), by rw [tkP_f (nx_f hp hct hch h5)]⟩)
theorem c_Scr_readNumber (X : Xn) (a : Nat → Nat) (gg : Nat → Option Nat) (T : Nat → Int32) (n kn p k C b : Nat) (c s w : Nat → Int32) (tx : Nat → Nat) (hn : n ≤ 100) (hT : ∀ j, j < n → T j = nI (tx j)) (hct : ∀ j, tx j < 128)  (hp : p ≤ n) : Does X 2 M_Scr_readNumber [.ref (a 0)] (SV X a gg (a 3) T n kn p k C b c s w) 0 0 (fun (vv : Option Value) (ww : va_W) => vv = some (.int (nmV (aNum n tx p))) ∧ ww = SV X a gg (a 3) T n kn ((aNum n tx p).2.1) k C b c s w) := by
  generalize hQ : (fun (vv : Option Value) (ww : va_W) => vv = some (.int (nmV (aNum n tx p))) ∧ ww = SV X a gg (a 3) T n kn ((aNum n tx p).2.1) k C b c s w) = Q
  refine Does.go rfl (Nat.le_of_ble_eq_true rfl) [some (.ref (a 0)), none, none, none] 3 rfl ?_
  refine r_iconst ((-1)) rfl 1 rfl d_Scr_readNumber_0 ?_
  refine r_istore_n (ls2 := [some (.ref (a 0)), some (.int (-1)), none, none]) 2 rfl d_Scr_readNumber_1 (by decide) rfl rfl ?_
  refine r_iconst (nI 0) rfl 3 rfl d_Scr_readNumber_2 ?_
  refine r_istore_n (ls2 := [some (.ref (a 0)), some (.int (-1)), some (.int (nI 0)), none]) 4 rfl d_Scr_readNumber_3 (by decide) rfl rfl ?_
  refine r_iload_n rfl 5 rfl d_Scr_readNumber_4 ?_
  refine r_iconst (nI 2) rfl 6 rfl d_Scr_readNumber_5 ?_
  refine r_icmp_geN_f 0 2 (by omega) (by omega) 9 rfl 58 rfl d_Scr_readNumber_6 (by omega) ?_
  refine r_aload_n rfl 10 rfl d_Scr_readNumber_9 ?_
  refine r_callVA1 (st2 := [.int (nx n tx p)]) (w2 := SV X a gg (a 3) T n kn p k C b c s w) lk_Scr_next ln_Scr_58 (c_Scr_next X a gg T n kn p k C b c s w tx hn hT hct (by omega)) (by first | decide | omega) rfl rfl (Nat.le_of_ble_eq_true rfl) (Nat.le_of_ble_eq_true rfl) (Nat.le_of_ble_eq_true rfl) 0 rfl rfl rfl rfl 13 rfl d_Scr_readNumber_10 ?_
  refine r_istore_n (ls2 := [some (.ref (a 0)), some (.int (-1)), some (.int (nI 0)), some (.int (nx n tx p))]) 14 rfl d_Scr_readNumber_13 (by decide) rfl rfl ?_
  refine r_iload_n rfl 15 rfl d_Scr_readNumber_14 ?_
  refine r_bipush (nI 48) rfl 17 rfl d_Scr_readNumber_15 ?_
  refine r_icmp_lt 20 26 rfl rfl d_Scr_readNumber_17 (fun h17 => ?_) (fun h17 => ?_)
  · refine r_iload_n rfl 27 rfl d_Scr_readNumber_26 ?_
    exact r_iret rfl (Nat.zero_le _) (Nat.zero_le _) d_Scr_readNumber_27 (by rw [← hQ]; exact ⟨by rw [aNum_0 (nx_d1 h17)]; rfl, by rw [aNum_0 (nx_d1 h17)]⟩)
  · refine r_iload_n rfl 21 rfl d_Scr_readNumber_20 ?_
    refine r_bipush (nI 57) rfl 23 rfl d_Scr_readNumber_21 ?_
    refine r_icmp_le 26 28 rfl rfl d_Scr_readNumber_23 (fun h23 => ?_) (fun h23 => ?_)
    · obtain ⟨g1_0, g2_0, g3_0, g4_0⟩ := nx_d3 hct h17 (Int32.not_lt.mpr h23)
      rw [nx_in g1_0]
      refine r_iload_n rfl 29 rfl d_Scr_readNumber_28 ?_
      refine r_iconst (nI 0) rfl 30 rfl d_Scr_readNumber_29 ?_
      refine r_mmax (inTB 590 (by decide +kernel) rfl) (by first | decide | omega) (Nat.le_of_ble_eq_true rfl) (Nat.le_of_ble_eq_true rfl) (Nat.le_of_ble_eq_true rfl) 33 rfl d_Scr_readNumber_30 ?_
      refine r_topi (nI (0)) (by decide) ?_
      refine r_bipush (nI 10) rfl 35 rfl d_Scr_readNumber_33 ?_
      refine r_imul 36 rfl d_Scr_readNumber_35 ?_
      refine r_topi (nI (0 * 10)) (pk_mul _ _) ?_
      refine r_iload_n rfl 37 rfl d_Scr_readNumber_36 ?_
      refine r_iadd 38 rfl d_Scr_readNumber_37 ?_
      refine r_topi (nI ((0 * 10) + (tx p))) (nI_add _ _) ?_
      refine r_bipush (nI 48) rfl 40 rfl d_Scr_readNumber_38 ?_
      refine r_isub 41 rfl d_Scr_readNumber_40 ?_
      refine r_topi (nI (10 * 0 + tx p - 48)) ((nI_sub (by omega)).trans (congrArg nI (by omega))) ?_
      refine r_istore_n (ls2 := [some (.ref (a 0)), some (.int (nI (10 * 0 + tx p - 48))), some (.int (nI 0)), some (.int (nI (tx p)))]) 42 rfl d_Scr_readNumber_41 (by decide) rfl rfl ?_
      refine r_aload_n rfl 43 rfl d_Scr_readNumber_42 ?_
      refine r_dup rfl 44 rfl d_Scr_readNumber_43 ?_
      refine r_getf (v := .int (nI p)) gf_Scr_47 0 rfl rfl 47 rfl d_Scr_readNumber_44 ?_
      refine r_iconst (nI 1) rfl 48 rfl d_Scr_readNumber_47 ?_
      refine r_iadd 49 rfl d_Scr_readNumber_48 ?_
      refine r_topi (nI (p + 1)) (nI_add _ _) ?_
      refine r_putf (w2 := SV X a gg (a 3) T n kn (p + 1) k C b c s w) pf_Scr_47 0 rfl (rfl) rfl (Nat.le_of_ble_eq_true rfl) rfl 52 rfl d_Scr_readNumber_49 ?_
      refine r_iinc (ls2 := [some (.ref (a 0)), some (.int (nI (10 * 0 + tx p - 48))), some (.int (nI (0 + 1))), some (.int (nI (tx p)))]) (nI (0 + 1)) rfl (nI_1 _) 55 rfl d_Scr_readNumber_52 (by decide) rfl rfl ?_
      refine r_goto 4 rfl d_Scr_readNumber_55 ?_
      refine r_iload_n rfl 5 rfl d_Scr_readNumber_4 ?_
      refine r_iconst (nI 2) rfl 6 rfl d_Scr_readNumber_5 ?_
      refine r_icmp_geN_f (0 + 1) 2 (by omega) (by omega) 9 rfl 58 rfl d_Scr_readNumber_6 (by omega) ?_
      refine r_aload_n rfl 10 rfl d_Scr_readNumber_9 ?_
      refine r_callVA1 (st2 := [.int (nx n tx (p + 1))]) (w2 := SV X a gg (a 3) T n kn (p + 1) k C b c s w) lk_Scr_next ln_Scr_58 (c_Scr_next X a gg T n kn (p + 1) k C b c s w tx hn hT hct (by omega)) (by first | decide | omega) rfl rfl (Nat.le_of_ble_eq_true rfl) (Nat.le_of_ble_eq_true rfl) (Nat.le_of_ble_eq_true rfl) 0 rfl rfl rfl rfl 13 rfl d_Scr_readNumber_10 ?_
      refine r_istore_n (ls2 := [some (.ref (a 0)), some (.int (nI (10 * 0 + tx p - 48))), some (.int (nI (0 + 1))), some (.int (nx n tx (p + 1)))]) 14 rfl d_Scr_readNumber_13 (by decide) rfl rfl ?_
      refine r_iload_n rfl 15 rfl d_Scr_readNumber_14 ?_
      refine r_bipush (nI 48) rfl 17 rfl d_Scr_readNumber_15 ?_
      refine r_icmp_lt 20 26 rfl rfl d_Scr_readNumber_17 (fun h17 => ?_) (fun h17 => ?_)
      · refine r_iload_n rfl 27 rfl d_Scr_readNumber_26 ?_
        exact r_iret rfl (Nat.zero_le _) (Nat.zero_le _) d_Scr_readNumber_27 (by rw [← hQ]; exact ⟨by rw [aNum_1 g4_0 (nx_d1 h17)]; rfl, by rw [aNum_1 g4_0 (nx_d1 h17)]⟩)
      · refine r_iload_n rfl 21 rfl d_Scr_readNumber_20 ?_
        refine r_bipush (nI 57) rfl 23 rfl d_Scr_readNumber_21 ?_
        refine r_icmp_le 26 28 rfl rfl d_Scr_readNumber_23 (fun h23 => ?_) (fun h23 => ?_)
        · obtain ⟨g1_1, g2_1, g3_1, g4_1⟩ := nx_d3 hct h17 (Int32.not_lt.mpr h23)
          rw [nx_in g1_1]
          refine r_iload_n rfl 29 rfl d_Scr_readNumber_28 ?_
          refine r_iconst (nI 0) rfl 30 rfl d_Scr_readNumber_29 ?_
          refine r_mmax (inTB 590 (by decide +kernel) rfl) (by first | decide | omega) (Nat.le_of_ble_eq_true rfl) (Nat.le_of_ble_eq_true rfl) (Nat.le_of_ble_eq_true rfl) 33 rfl d_Scr_readNumber_30 ?_
          refine r_topi (nI (10 * 0 + tx p - 48)) (if_neg (fun z => by rw [nI_ltI (by omega) (by decide)] at z; omega)) ?_
          refine r_bipush (nI 10) rfl 35 rfl d_Scr_readNumber_33 ?_
          refine r_imul 36 rfl d_Scr_readNumber_35 ?_
          refine r_topi (nI ((10 * 0 + tx p - 48) * 10)) (pk_mul _ _) ?_
          refine r_iload_n rfl 37 rfl d_Scr_readNumber_36 ?_
          refine r_iadd 38 rfl d_Scr_readNumber_37 ?_
          refine r_topi (nI (((10 * 0 + tx p - 48) * 10) + (tx (p + 1)))) (nI_add _ _) ?_
          refine r_bipush (nI 48) rfl 40 rfl d_Scr_readNumber_38 ?_
          refine r_isub 41 rfl d_Scr_readNumber_40 ?_
          refine r_topi (nI (10 * (10 * 0 + tx p - 48) + tx (p + 1) - 48)) ((nI_sub (by omega)).trans (congrArg nI (by omega))) ?_
          refine r_istore_n (ls2 := [some (.ref (a 0)), some (.int (nI (10 * (10 * 0 + tx p - 48) + tx (p + 1) - 48))), some (.int (nI (0 + 1))), some (.int (nI (tx (p + 1))))]) 42 rfl d_Scr_readNumber_41 (by decide) rfl rfl ?_
          refine r_aload_n rfl 43 rfl d_Scr_readNumber_42 ?_
          refine r_dup rfl 44 rfl d_Scr_readNumber_43 ?_
          refine r_getf (v := .int (nI (p + 1))) gf_Scr_47 0 rfl rfl 47 rfl d_Scr_readNumber_44 ?_
          refine r_iconst (nI 1) rfl 48 rfl d_Scr_readNumber_47 ?_
          refine r_iadd 49 rfl d_Scr_readNumber_48 ?_
          refine r_topi (nI ((p + 1) + 1)) (nI_add _ _) ?_
          refine r_putf (w2 := SV X a gg (a 3) T n kn ((p + 1) + 1) k C b c s w) pf_Scr_47 0 rfl (rfl) rfl (Nat.le_of_ble_eq_true rfl) rfl 52 rfl d_Scr_readNumber_49 ?_
          refine r_iinc (ls2 := [some (.ref (a 0)), some (.int (nI (10 * (10 * 0 + tx p - 48) + tx (p + 1) - 48))), some (.int (nI ((0 + 1) + 1))), some (.int (nI (tx (p + 1))))]) (nI ((0 + 1) + 1)) rfl (nI_1 _) 55 rfl d_Scr_readNumber_52 (by decide) rfl rfl ?_
          refine r_goto 4 rfl d_Scr_readNumber_55 ?_
          refine r_iload_n rfl 5 rfl d_Scr_readNumber_4 ?_
          refine r_iconst (nI 2) rfl 6 rfl d_Scr_readNumber_5 ?_
          refine r_icmp_geN_t ((0 + 1) + 1) 2 (by omega) (by omega) 58 rfl d_Scr_readNumber_6 (by omega) ?_
          refine r_iload_n rfl 59 rfl d_Scr_readNumber_58 ?_
          exact r_iret rfl (Nat.zero_le _) (Nat.zero_le _) d_Scr_readNumber_59 (by rw [← hQ]; exact ⟨by rw [aNum_2 g4_0 g4_1]; rfl, by rw [aNum_2 g4_0 g4_1]⟩)
        · refine r_iload_n rfl 27 rfl d_Scr_readNumber_26 ?_
          exact r_iret rfl (Nat.zero_le _) (Nat.zero_le _) d_Scr_readNumber_27 (by rw [← hQ]; exact ⟨by rw [aNum_1 g4_0 (nx_d2 (Int32.not_le.mp h23))]; rfl, by rw [aNum_1 g4_0 (nx_d2 (Int32.not_le.mp h23))]⟩)
    · refine r_iload_n rfl 27 rfl d_Scr_readNumber_26 ?_
      exact r_iret rfl (Nat.zero_le _) (Nat.zero_le _) d_Scr_readNumber_27 (by rw [← hQ]; exact ⟨by rw [aNum_0 (nx_d2 (Int32.not_le.mp h23))]; rfl, by rw [aNum_0 (nx_d2 (Int32.not_le.mp h23))]⟩)
theorem c_Scr_readTest (X : Xn) (a : Nat → Nat) (gg : Nat → Option Nat) (T : Nat → Int32) (n kn p k C b : Nat) (c s w : Nat → Int32) (tx : Nat → Nat) (hn : n ≤ 100) (hT : ∀ j, j < n → T j = nI (tx j)) (hct : ∀ j, tx j < 128)  (hp : p ≤ n) (hkp : k ≤ p) : Does X 3 M_Scr_readTest [.ref (a 0)] (SV X a gg (a 3) T n kn p k C b c s w) 0 0 (RQ X a gg T n kn C b s w p k c (aTest n tx p)) := by
  generalize hQ : (RQ X a gg T n kn C b s w p k c (aTest n tx p)) = Q
  refine Does.go rfl (Nat.le_of_ble_eq_true rfl) [some (.ref (a 0)), none, none, none] 3 rfl ?_
  refine r_aload_n rfl 1 rfl d_Scr_readTest_0 ?_
  refine r_callVA1 (st2 := [.int (nx n tx p)]) (w2 := SV X a gg (a 3) T n kn p k C b c s w) lk_Scr_next ln_Scr_58 (c_Scr_next X a gg T n kn p k C b c s w tx hn hT hct (by omega)) (by first | decide | omega) rfl rfl (Nat.le_of_ble_eq_true rfl) (Nat.le_of_ble_eq_true rfl) (Nat.le_of_ble_eq_true rfl) 0 rfl rfl rfl rfl 4 rfl d_Scr_readTest_1 ?_
  refine r_istore_n (ls2 := [some (.ref (a 0)), some (.int (nx n tx p)), none, none]) 5 rfl d_Scr_readTest_4 (by decide) rfl rfl ?_
  have J61_1 : ∀ (l : Nat), (l < 6) → (aIs n tx (lc l) p = true) → Runs X 3 M_Scr_readTest 0 0 Q 61 [some (.ref (a 0)), some (.int (nx n tx p)), none, none] [] 0 0 (SV X a gg (a 3) T n kn (p + 1) k C b c s w) := by
    intro l hl hL
    have hlt := (aIs_t hL hp).1
    refine r_aload_n rfl 62 rfl d_Scr_readTest_61 ?_
    refine r_callVA1 (st2 := [.int (nx n tx (p + 1))]) (w2 := SV X a gg (a 3) T n kn (p + 1) k C b c s w) lk_Scr_next ln_Scr_58 (c_Scr_next X a gg T n kn (p + 1) k C b c s w tx hn hT hct (by omega)) (by first | decide | omega) rfl rfl (Nat.le_of_ble_eq_true rfl) (Nat.le_of_ble_eq_true rfl) (Nat.le_of_ble_eq_true rfl) 0 rfl rfl rfl rfl 65 rfl d_Scr_readTest_62 ?_
    refine r_istore_n (ls2 := [some (.ref (a 0)), some (.int (nx n tx p)), some (.int (nx n tx (p + 1))), none]) 66 rfl d_Scr_readTest_65 (by decide) rfl rfl ?_
    have J95_2 : ∀ (g : Nat), (g < 3) → (aIs n tx (60 + g) (p + 1) = true) → Runs X 3 M_Scr_readTest 0 0 Q 95 [some (.ref (a 0)), some (.int (nx n tx p)), some (.int (nx n tx (p + 1))), none] [] 0 0 (SV X a gg (a 3) T n kn (p + 1 + 1) k C b c s w) := by
      intro g hg hG
      have hlt2 := (aIs_t hG (by omega)).1
      refine r_aload_n rfl 96 rfl d_Scr_readTest_95 ?_
      refine r_callVA1 (st2 := [.int (nmV (aNum n tx (p + 1 + 1)))]) (w2 := SV X a gg (a 3) T n kn ((aNum n tx (p + 1 + 1)).2.1) k C b c s w) lk_Scr_readNumber ln_Scr_77 (c_Scr_readNumber X a gg T n kn (p + 1 + 1) k C b c s w tx hn hT hct (by omega)) (by first | decide | omega) rfl rfl (Nat.le_of_ble_eq_true rfl) (Nat.le_of_ble_eq_true rfl) (Nat.le_of_ble_eq_true rfl) 0 rfl rfl rfl rfl 99 rfl d_Scr_readTest_96 ?_
      have hNg := aNum_g (n := n) (tx := tx) (p := (p + 1 + 1)) (by omega)
      by_cases hN : (aNum n tx (p + 1 + 1)).1 = true
      · have hNs := hNg.2.2 hN
        refine r_topi (nI (aNum n tx (p + 1 + 1)).2.2) (if_pos hN) ?_
        refine r_istore_n (ls2 := [some (.ref (a 0)), some (.int (nx n tx p)), some (.int (nx n tx (p + 1))), some (.int (nI ((aNum n tx (p + 1 + 1)).2.2)))]) 100 rfl d_Scr_readTest_99 (by decide) rfl rfl ?_
        refine r_iload_n rfl 101 rfl d_Scr_readTest_100 ?_
        refine r_if_geN_t ((aNum n tx (p + 1 + 1)).2.2) (Nat.lt_trans aNum_v (by decide)) 106 rfl d_Scr_readTest_101 (Nat.zero_le _) ?_
        refine r_aload_n rfl 107 rfl d_Scr_readTest_106 ?_
        refine r_getf (v := .ref (a 3)) gf_Scr_26 0 rfl rfl 110 rfl d_Scr_readTest_107 ?_
        refine r_iload_n rfl 111 rfl d_Scr_readTest_110 ?_
        refine r_topi (nI (lc l)) ((nx_eq hp hct (lcc_lt l)).mpr hL) ?_
        refine r_iload_n rfl 112 rfl d_Scr_readTest_111 ?_
        refine r_topi (nI (60 + g)) ((nx_eq (by omega) hct (by omega)).mpr hG) ?_
        refine r_iload_n rfl 113 rfl d_Scr_readTest_112 ?_
        refine r_callV1 (st2 := []) (w2 := SV X a gg (a 3) T n kn ((aNum n tx (p + 1 + 1)).2.1) (k + 1) C b (upd c k (nI ((lc l) * 16384 + ((60 + g) * 128 + ((aNum n tx (p + 1 + 1)).2.2))))) s w) lk_Exc_addTest ln_Scr_98 (c_Exc_addTest X (pl [3, 4, 5, 6] a) (nE k C b) (sE c s w) (fun _ _ => 0) (lc l) (60 + g) ((aNum n tx (p + 1 + 1)).2.2) (show k < 100 by omega) (lcc_lt _) (by omega) (Nat.lt_trans aNum_v (by decide))) (by first | decide | omega) rfl rfl (Nat.le_of_ble_eq_true rfl) (Nat.le_of_ble_eq_true rfl) (Nat.le_of_ble_eq_true rfl) [3, 4, 5, 6] rfl rfl 0 rfl rfl rfl rfl rfl 116 rfl d_Scr_readTest_113 ?_
        refine r_iconst (nI 1) rfl 117 rfl d_Scr_readTest_116 ?_
        exact r_zret rfl (rfl) (Nat.zero_le _) (Nat.zero_le _) d_Scr_readTest_117 (by rw [← hQ]; exact RQ_mk (r2 := (true, (aNum n tx (p + 1 + 1)).2.1, [3 + 300 * l + 100 * g + (aNum n tx (p + 1 + 1)).2.2])) (by rw [aT_2 hp hl hL hg hG, if_pos hN]) rfl (show k + 1 + p ≤ k + (aNum n tx (p + 1 + 1)).2.1 by omega) (fun _ => ⟨rfl, by show upd c k _ = putS c k [_]; rw [← stp_tok hl hg aNum_v]; exact putS_one _ _ _⟩))
      · refine r_topi (-1) (if_neg hN) ?_
        refine r_istore_n (ls2 := [some (.ref (a 0)), some (.int (nx n tx p)), some (.int (nx n tx (p + 1))), some (.int (-1))]) 100 rfl d_Scr_readTest_99 (by decide) rfl rfl ?_
        refine r_iload_n rfl 101 rfl d_Scr_readTest_100 ?_
        refine r_if_ge_f 104 rfl 106 rfl d_Scr_readTest_101 (by decide) ?_
        refine r_iconst (nI 0) rfl 105 rfl d_Scr_readTest_104 ?_
        exact r_zret rfl (rfl) (Nat.zero_le _) (Nat.zero_le _) d_Scr_readTest_105 (by rw [← hQ]; exact RQ_mk (r2 := (false, (aNum n tx (p + 1 + 1)).2.1, [])) (by rw [aT_2 hp hl hL hg hG, if_neg hN]) rfl (show k + p ≤ k + (aNum n tx (p + 1 + 1)).2.1 by omega) (fun z => by cases z))
    refine r_aload_n rfl 67 rfl d_Scr_readTest_66 ?_
    refine r_bipush (nI 60) rfl 69 rfl d_Scr_readTest_67 ?_
    refine r_callVA1 (st2 := [.int (bI (aIs n tx 60 (p + 1)))]) (w2 := SV X a gg (a 3) T n kn (tkP n tx 60 (p + 1)) k C b c s w) lk_Scr_take ln_Scr_54 (c_Scr_take X a gg T n kn (p + 1) k C b c s w tx hn hT hct 60 (by omega) (by decide)) (by first | decide | omega) rfl rfl (Nat.le_of_ble_eq_true rfl) (Nat.le_of_ble_eq_true rfl) (Nat.le_of_ble_eq_true rfl) 0 rfl rfl rfl rfl 72 rfl d_Scr_readTest_69 ?_
    refine r_if_neB 75 95 rfl rfl d_Scr_readTest_72 (fun h72 => ?_) (fun h72 => ?_)
    · rw [tkP_t h72]
      have hlt72 := (aIs_t h72 (by omega)).1
      exact J95_2 0 (by decide) (h72)
    · rw [tkP_f h72]
      refine r_aload_n rfl 76 rfl d_Scr_readTest_75 ?_
      refine r_bipush (nI 61) rfl 78 rfl d_Scr_readTest_76 ?_
      refine r_callVA1 (st2 := [.int (bI (aIs n tx 61 (p + 1)))]) (w2 := SV X a gg (a 3) T n kn (tkP n tx 61 (p + 1)) k C b c s w) lk_Scr_take ln_Scr_54 (c_Scr_take X a gg T n kn (p + 1) k C b c s w tx hn hT hct 61 (by omega) (by decide)) (by first | decide | omega) rfl rfl (Nat.le_of_ble_eq_true rfl) (Nat.le_of_ble_eq_true rfl) (Nat.le_of_ble_eq_true rfl) 0 rfl rfl rfl rfl 81 rfl d_Scr_readTest_78 ?_
      refine r_if_neB 84 95 rfl rfl d_Scr_readTest_81 (fun h81 => ?_) (fun h81 => ?_)
      · rw [tkP_t h81]
        have hlt81 := (aIs_t h81 (by omega)).1
        exact J95_2 1 (by decide) (h81)
      · rw [tkP_f h81]
        refine r_aload_n rfl 85 rfl d_Scr_readTest_84 ?_
        refine r_bipush (nI 62) rfl 87 rfl d_Scr_readTest_85 ?_
        refine r_callVA1 (st2 := [.int (bI (aIs n tx 62 (p + 1)))]) (w2 := SV X a gg (a 3) T n kn (tkP n tx 62 (p + 1)) k C b c s w) lk_Scr_take ln_Scr_54 (c_Scr_take X a gg T n kn (p + 1) k C b c s w tx hn hT hct 62 (by omega) (by decide)) (by first | decide | omega) rfl rfl (Nat.le_of_ble_eq_true rfl) (Nat.le_of_ble_eq_true rfl) (Nat.le_of_ble_eq_true rfl) 0 rfl rfl rfl rfl 90 rfl d_Scr_readTest_87 ?_
        refine r_if_neB 93 95 rfl rfl d_Scr_readTest_90 (fun h90 => ?_) (fun h90 => ?_)
        · rw [tkP_t h90]
          have hlt90 := (aIs_t h90 (by omega)).1
          exact J95_2 2 (by decide) (h90)
        · rw [tkP_f h90]
          refine r_iconst (nI 0) rfl 94 rfl d_Scr_readTest_93 ?_
          exact r_zret rfl (rfl) (Nat.zero_le _) (Nat.zero_le _) d_Scr_readTest_94 (by rw [← hQ]; exact RQ_mk (r2 := (false, p + 1, [])) (aT_1 hct hp hl hL h72 h81 h90) rfl (show k + p ≤ k + (p + 1) by omega) (fun z => by cases z))
  refine r_aload_n rfl 6 rfl d_Scr_readTest_5 ?_
  refine r_bipush (nI 112) rfl 8 rfl d_Scr_readTest_6 ?_
  refine r_callVA1 (st2 := [.int (bI (aIs n tx 112 p))]) (w2 := SV X a gg (a 3) T n kn (tkP n tx 112 p) k C b c s w) lk_Scr_take ln_Scr_54 (c_Scr_take X a gg T n kn p k C b c s w tx hn hT hct 112 (by omega) (by decide)) (by first | decide | omega) rfl rfl (Nat.le_of_ble_eq_true rfl) (Nat.le_of_ble_eq_true rfl) (Nat.le_of_ble_eq_true rfl) 0 rfl rfl rfl rfl 11 rfl d_Scr_readTest_8 ?_
  refine r_if_neB 14 61 rfl rfl d_Scr_readTest_11 (fun h11 => ?_) (fun h11 => ?_)
  · rw [tkP_t h11]
    have hlt11 := (aIs_t h11 (by omega)).1
    exact J61_1 0 (by decide) (h11)
  · rw [tkP_f h11]
    refine r_aload_n rfl 15 rfl d_Scr_readTest_14 ?_
    refine r_bipush (nI 113) rfl 17 rfl d_Scr_readTest_15 ?_
    refine r_callVA1 (st2 := [.int (bI (aIs n tx 113 p))]) (w2 := SV X a gg (a 3) T n kn (tkP n tx 113 p) k C b c s w) lk_Scr_take ln_Scr_54 (c_Scr_take X a gg T n kn p k C b c s w tx hn hT hct 113 (by omega) (by decide)) (by first | decide | omega) rfl rfl (Nat.le_of_ble_eq_true rfl) (Nat.le_of_ble_eq_true rfl) (Nat.le_of_ble_eq_true rfl) 0 rfl rfl rfl rfl 20 rfl d_Scr_readTest_17 ?_
    refine r_if_neB 23 61 rfl rfl d_Scr_readTest_20 (fun h20 => ?_) (fun h20 => ?_)
    · rw [tkP_t h20]
      have hlt20 := (aIs_t h20 (by omega)).1
      exact J61_1 1 (by decide) (h20)
    · rw [tkP_f h20]
      refine r_aload_n rfl 24 rfl d_Scr_readTest_23 ?_
      refine r_bipush (nI 107) rfl 26 rfl d_Scr_readTest_24 ?_
      refine r_callVA1 (st2 := [.int (bI (aIs n tx 107 p))]) (w2 := SV X a gg (a 3) T n kn (tkP n tx 107 p) k C b c s w) lk_Scr_take ln_Scr_54 (c_Scr_take X a gg T n kn p k C b c s w tx hn hT hct 107 (by omega) (by decide)) (by first | decide | omega) rfl rfl (Nat.le_of_ble_eq_true rfl) (Nat.le_of_ble_eq_true rfl) (Nat.le_of_ble_eq_true rfl) 0 rfl rfl rfl rfl 29 rfl d_Scr_readTest_26 ?_
      refine r_if_neB 32 61 rfl rfl d_Scr_readTest_29 (fun h29 => ?_) (fun h29 => ?_)
      · rw [tkP_t h29]
        have hlt29 := (aIs_t h29 (by omega)).1
        exact J61_1 2 (by decide) (h29)
      · rw [tkP_f h29]
        refine r_aload_n rfl 33 rfl d_Scr_readTest_32 ?_
        refine r_bipush (nI 118) rfl 35 rfl d_Scr_readTest_33 ?_
        refine r_callVA1 (st2 := [.int (bI (aIs n tx 118 p))]) (w2 := SV X a gg (a 3) T n kn (tkP n tx 118 p) k C b c s w) lk_Scr_take ln_Scr_54 (c_Scr_take X a gg T n kn p k C b c s w tx hn hT hct 118 (by omega) (by decide)) (by first | decide | omega) rfl rfl (Nat.le_of_ble_eq_true rfl) (Nat.le_of_ble_eq_true rfl) (Nat.le_of_ble_eq_true rfl) 0 rfl rfl rfl rfl 38 rfl d_Scr_readTest_35 ?_
        refine r_if_neB 41 61 rfl rfl d_Scr_readTest_38 (fun h38 => ?_) (fun h38 => ?_)
        · rw [tkP_t h38]
          have hlt38 := (aIs_t h38 (by omega)).1
          exact J61_1 3 (by decide) (h38)
        · rw [tkP_f h38]
          refine r_aload_n rfl 42 rfl d_Scr_readTest_41 ?_
          refine r_bipush (nI 115) rfl 44 rfl d_Scr_readTest_42 ?_
          refine r_callVA1 (st2 := [.int (bI (aIs n tx 115 p))]) (w2 := SV X a gg (a 3) T n kn (tkP n tx 115 p) k C b c s w) lk_Scr_take ln_Scr_54 (c_Scr_take X a gg T n kn p k C b c s w tx hn hT hct 115 (by omega) (by decide)) (by first | decide | omega) rfl rfl (Nat.le_of_ble_eq_true rfl) (Nat.le_of_ble_eq_true rfl) (Nat.le_of_ble_eq_true rfl) 0 rfl rfl rfl rfl 47 rfl d_Scr_readTest_44 ?_
          refine r_if_neB 50 61 rfl rfl d_Scr_readTest_47 (fun h47 => ?_) (fun h47 => ?_)
          · rw [tkP_t h47]
            have hlt47 := (aIs_t h47 (by omega)).1
            exact J61_1 4 (by decide) (h47)
          · rw [tkP_f h47]
            refine r_aload_n rfl 51 rfl d_Scr_readTest_50 ?_
            refine r_bipush (nI 100) rfl 53 rfl d_Scr_readTest_51 ?_
            refine r_callVA1 (st2 := [.int (bI (aIs n tx 100 p))]) (w2 := SV X a gg (a 3) T n kn (tkP n tx 100 p) k C b c s w) lk_Scr_take ln_Scr_54 (c_Scr_take X a gg T n kn p k C b c s w tx hn hT hct 100 (by omega) (by decide)) (by first | decide | omega) rfl rfl (Nat.le_of_ble_eq_true rfl) (Nat.le_of_ble_eq_true rfl) (Nat.le_of_ble_eq_true rfl) 0 rfl rfl rfl rfl 56 rfl d_Scr_readTest_53 ?_
            refine r_if_neB 59 61 rfl rfl d_Scr_readTest_56 (fun h56 => ?_) (fun h56 => ?_)
            · rw [tkP_t h56]
              have hlt56 := (aIs_t h56 (by omega)).1
              exact J61_1 5 (by decide) (h56)
            · rw [tkP_f h56]
              refine r_iconst (nI 0) rfl 60 rfl d_Scr_readTest_59 ?_
              exact r_zret rfl (rfl) (Nat.zero_le _) (Nat.zero_le _) d_Scr_readTest_60 (by rw [← hQ]; exact RQ_mk (r2 := (false, p, [])) (aT_0 hct h11 h20 h29 h38 h47 h56) rfl (show k + p ≤ k + p by omega) (fun z => by cases z))
theorem c_Scr_readFactor0 (X : Xn) (a : Nat → Nat) (gg : Nat → Option Nat) (T : Nat → Int32) (n kn p k C b : Nat) (c s w : Nat → Int32) (tx : Nat → Nat) (hn : n ≤ 100) (hT : ∀ j, j < n → T j = nI (tx j)) (hct : ∀ j, tx j < 128) (D : Nat) (hp : p ≤ n) (hkp : k ≤ p) (hD : D + 0 = 4) : Does X 4 M_Scr_readFactor [.ref (a 0), .int (nI D)] (SV X a gg (a 3) T n kn p k C b c s w) 0 0 (RQ X a gg T n kn C b s w p k c (aF n tx 0 p)) := by
  generalize hQ : (RQ X a gg T n kn C b s w p k c (aF n tx 0 p)) = Q
  refine Does.go rfl (Nat.le_of_ble_eq_true rfl) [some (.ref (a 0)), some (.int (nI D))] 0 rfl ?_
  refine r_iload_n rfl 1 rfl d_Scr_readFactor_0 ?_
  refine r_iconst (nI 4) rfl 2 rfl d_Scr_readFactor_1 ?_
  refine r_icmp_geN_t D 4 (by omega) (by omega) 70 rfl d_Scr_readFactor_2 (by omega) ?_
  refine r_aload_n rfl 71 rfl d_Scr_readFactor_70 ?_
  refine r_callVAQ (st2 := []) (w2 := []) lk_Scr_readTest ln_Scr_95 (c_Scr_readTest X a gg T n kn p k C b c s w tx hn hT hct (by omega) (by omega)) (by first | decide | omega) rfl rfl (Nat.le_of_ble_eq_true rfl) (Nat.le_of_ble_eq_true rfl) (Nat.le_of_ble_eq_true rfl) 0 rfl rfl 74 rfl d_Scr_readFactor_71 (fun vv ww hq2 => ?_)
  obtain ⟨rfl, k1, c1, rfl, hk1, hc1⟩ := hq2
  refine ⟨rfl, ?_⟩
  show Runs X 4 M_Scr_readFactor 0 0 Q 74 [some (.ref (a 0)), some (.int (nI D))] [.int (bI ((aTest n tx p).1))] 0 0 (SV X a gg (a 3) T n kn ((aTest n tx p).2.1) k1 C b c1 s w)
  exact r_zret rfl (bI_nar _) (Nat.zero_le _) (Nat.zero_le _) d_Scr_readFactor_74 (by rw [← hQ]; exact RQ_mk (r2 := aTest n tx p) (rfl) rfl (hk1) (hc1))
theorem c_Scr_readCondition (X : Xn) (a : Nat → Nat) (gg : Nat → Option Nat) (T : Nat → Int32) (n kn p k C b : Nat) (c s w : Nat → Int32) (tx : Nat → Nat) (hn : n ≤ 100) (hT : ∀ j, j < n → T j = nI (tx j)) (hct : ∀ j, tx j < 128) (g : Nat → Rd) (r dF : Nat) (hdF : 4 ≤ dF) (hF : ∀ (D p k : Nat) (c : Nat → Int32), D + r = 4 → p ≤ n → k ≤ p → Does X dF M_Scr_readFactor [.ref (a 0), .int (nI D)] (SV X a gg (a 3) T n kn p k C b c s w) 0 0 ((RQ X a gg T n kn C b s w p k c (g p)))) (hG : ∀ p, p ≤ n → aG n p (g p)) (D : Nat) (hp : p ≤ n) (hkp : k ≤ p) (hD : D + r = 4) : Does X (dF + 1) M_Scr_readCondition [.ref (a 0), .int (nI D)] (SV X a gg (a 3) T n kn p k C b c s w) 0 0 (RQ X a gg T n kn C b s w p k c (cC n tx g p)) := by
  generalize hQ : (RQ X a gg T n kn C b s w p k c (cC n tx g p)) = Q
  refine Does.go rfl (Nat.le_of_ble_eq_true rfl) [some (.ref (a 0)), some (.int (nI D)), none, none] 2 rfl ?_
  refine r_aload_n rfl 1 rfl d_Scr_readCondition_0 ?_
  refine r_iload_n rfl 2 rfl d_Scr_readCondition_1 ?_
  refine r_callVAQ (st2 := []) (w2 := []) lk_Scr_readFactor ln_Scr_89 (hF D p k c (by omega) (by omega) (by omega)) (by first | decide | omega) rfl rfl (Nat.le_of_ble_eq_true rfl) (Nat.le_of_ble_eq_true rfl) (Nat.le_of_ble_eq_true rfl) 0 rfl rfl 5 rfl d_Scr_readCondition_2 (fun vv ww hq2 => ?_)
  obtain ⟨rfl, k2, c2, rfl, hk2, hc2⟩ := hq2
  refine ⟨rfl, ?_⟩
  show Runs X (dF + 1) M_Scr_readCondition 0 0 Q 5 [some (.ref (a 0)), some (.int (nI D)), none, none] [.int (bI ((g p).1))] 0 0 (SV X a gg (a 3) T n kn ((g p).2.1) k2 C b c2 s w)
  refine r_if_neB 8 10 rfl rfl d_Scr_readCondition_5 (fun h5 => ?_) (fun h5 => ?_)
  · obtain ⟨rfl, rfl⟩ := hc2 h5
    have hGp := hG p hp
    unfold aG at hGp
    refine r_iconst (nI 0) rfl 11 rfl d_Scr_readCondition_10 ?_
    refine r_istore_n (ls2 := [some (.ref (a 0)), some (.int (nI D)), some (.int (nI 0)), none]) 12 rfl d_Scr_readCondition_11 (by decide) rfl rfl ?_
    refine r_iconst (nI 0) rfl 13 rfl d_Scr_readCondition_12 ?_
    refine r_istore_n (ls2 := [some (.ref (a 0)), some (.int (nI D)), some (.int (nI 0)), some (.int (nI 0))]) 14 rfl d_Scr_readCondition_13 (by decide) rfl rfl ?_
    have L14_1 : ∀ (f : Nat) (u : Nat) (i : Nat) (o : Bool) (q : Nat) (tk : List Nat), (u + i = 100) → (cC n tx g p = ((cL n tx g u o q).1, (cL n tx g u o q).2.1, tk ++ (cL n tx g u o q).2.2)) → (q ≤ n) → (tk.length + p + bN o ≤ q) → u < f → Runs X (dF + 1) M_Scr_readCondition 0 0 Q 14 [some (.ref (a 0)), some (.int (nI D)), some (.int (bI o)), some (.int (nI i))] [] 0 0 (SV X a gg (a 3) T n kn q (k + tk.length) C b (putS c k tk) s w) := by
      intro f
      induction f with
      | zero => intro u i o q tk hui hr hq hb hmu; exact absurd hmu (Nat.not_lt_zero _)
      | succ f ih2 =>
        intro u i o q tk hui hr hq hb hmu
        refine r_iload_n rfl 15 rfl d_Scr_readCondition_14 ?_
        refine r_bipush (nI 100) rfl 17 rfl d_Scr_readCondition_15 ?_
        refine r_icmp_geN i 100 (by omega) (by omega) 20 93 rfl rfl d_Scr_readCondition_17 (fun h17 => ?_) (fun h17 => ?_)
        · refine r_iconst (nI 0) rfl 94 rfl d_Scr_readCondition_93 ?_
          exact r_zret rfl (rfl) (Nat.zero_le _) (Nat.zero_le _) d_Scr_readCondition_94 (by rw [← hQ]; exact RQ_mk (r2 := (false, q, tk ++ [])) (by rw [hr, show u = 0 by omega]; rfl) rfl (show k + tk.length + p ≤ k + q by omega) (fun z => by cases z))
        · obtain ⟨u0, rfl⟩ : ∃ u0, u = u0 + 1 := ⟨u - 1, by omega⟩
          refine r_aload_n rfl 21 rfl d_Scr_readCondition_20 ?_
          refine r_bipush (nI 38) rfl 23 rfl d_Scr_readCondition_21 ?_
          refine r_callVA1 (st2 := [.int (bI (aIs n tx 38 q))]) (w2 := SV X a gg (a 3) T n kn (tkP n tx 38 q) (k + tk.length) C b (putS c k tk) s w) lk_Scr_take ln_Scr_54 (c_Scr_take X a gg T n kn q (k + tk.length) C b (putS c k tk) s w tx hn hT hct 38 (by omega) (by decide)) (by first | decide | omega) rfl rfl (Nat.le_of_ble_eq_true rfl) (Nat.le_of_ble_eq_true rfl) (Nat.le_of_ble_eq_true rfl) 0 rfl rfl rfl rfl 26 rfl d_Scr_readCondition_23 ?_
          refine r_if_eqB 29 51 rfl rfl d_Scr_readCondition_26 (fun h26 => ?_) (fun h26 => ?_)
          · rw [tkP_f h26]
            refine r_iload_n rfl 52 rfl d_Scr_readCondition_51 ?_
            refine r_if_eqB 55 64 rfl rfl d_Scr_readCondition_52 (fun h52 => ?_) (fun h52 => ?_)
            · subst h52
              refine r_aload_n rfl 65 rfl d_Scr_readCondition_64 ?_
              refine r_bipush (nI 124) rfl 67 rfl d_Scr_readCondition_65 ?_
              refine r_callVA1 (st2 := [.int (bI (aIs n tx 124 q))]) (w2 := SV X a gg (a 3) T n kn (tkP n tx 124 q) (k + tk.length) C b (putS c k tk) s w) lk_Scr_take ln_Scr_54 (c_Scr_take X a gg T n kn q (k + tk.length) C b (putS c k tk) s w tx hn hT hct 124 (by omega) (by decide)) (by first | decide | omega) rfl rfl (Nat.le_of_ble_eq_true rfl) (Nat.le_of_ble_eq_true rfl) (Nat.le_of_ble_eq_true rfl) 0 rfl rfl rfl rfl 70 rfl d_Scr_readCondition_67 ?_
              refine r_if_neB 73 75 rfl rfl d_Scr_readCondition_70 (fun h70 => ?_) (fun h70 => ?_)
              · rw [tkP_t h70]
                have hlt70 := (aIs_t h70 (by omega)).1
                refine r_aload_n rfl 76 rfl d_Scr_readCondition_75 ?_
                refine r_iload_n rfl 77 rfl d_Scr_readCondition_76 ?_
                refine r_callVAQ (st2 := []) (w2 := []) lk_Scr_readFactor ln_Scr_89 (hF D (q + 1) (k + tk.length) (putS c k tk) (by omega) (by omega) (by omega)) (by first | decide | omega) rfl rfl (Nat.le_of_ble_eq_true rfl) (Nat.le_of_ble_eq_true rfl) (Nat.le_of_ble_eq_true rfl) 0 rfl rfl 80 rfl d_Scr_readCondition_77 (fun vv ww hq2 => ?_)
                obtain ⟨rfl, k3, c3, rfl, hk3, hc3⟩ := hq2
                refine ⟨rfl, ?_⟩
                show Runs X (dF + 1) M_Scr_readCondition 0 0 Q 80 [some (.ref (a 0)), some (.int (nI D)), some (.int (bI false)), some (.int (nI i))] [.int (bI ((g (q + 1)).1))] 0 0 (SV X a gg (a 3) T n kn ((g (q + 1)).2.1) k3 C b c3 s w)
                refine r_if_neB 83 85 rfl rfl d_Scr_readCondition_80 (fun h80 => ?_) (fun h80 => ?_)
                · obtain ⟨rfl, rfl⟩ := hc3 h80
                  have hG1 := hG (q + 1) (by omega)
                  unfold aG at hG1
                  refine r_iconst (nI 1) rfl 86 rfl d_Scr_readCondition_85 ?_
                  refine r_istore_n (ls2 := [some (.ref (a 0)), some (.int (nI D)), some (.int (nI 1)), some (.int (nI i))]) 87 rfl d_Scr_readCondition_86 (by decide) rfl rfl ?_
                  refine r_iinc (ls2 := [some (.ref (a 0)), some (.int (nI D)), some (.int (nI 1)), some (.int (nI (i + 1)))]) (nI (i + 1)) rfl (nI_1 _) 90 rfl d_Scr_readCondition_87 (by decide) rfl rfl ?_
                  refine r_goto 14 rfl d_Scr_readCondition_90 ?_
                  refine Runs.cast (ih2 u0 (i + 1) true ((g (q + 1)).2.1) (tk ++ (g (q + 1)).2.2) (by omega) (by rw [hr, cL, if_neg (by rw [h26]; decide), if_pos h70, if_pos h80]; simp) ((hG (q + 1) (by omega)).2.1) (by simp only [List.length_append]; have e : bN true = 1 := rfl; omega) (Nat.lt_of_succ_lt_succ hmu)) (rfl) rfl (SV_c (by simp only [List.length_append, List.length_cons, List.length_nil]; omega) (putS_app _ _ _ _))
                · have hG1 := hG (q + 1) (by omega)
                  unfold aG at hG1
                  refine r_iconst (nI 0) rfl 84 rfl d_Scr_readCondition_83 ?_
                  exact r_zret rfl (rfl) (Nat.zero_le _) (Nat.zero_le _) d_Scr_readCondition_84 (by rw [← hQ]; exact RQ_mk (r2 := (false, (g (q + 1)).2.1, tk ++ [])) (by rw [hr, cL, if_neg (by rw [h26]; decide), if_pos h70, if_neg (by rw [h80]; decide)]; try rfl) rfl (show k3 + p ≤ k + (g (q + 1)).2.1 by omega) (fun z => by cases z))
              · rw [tkP_f h70]
                refine r_iconst (nI 1) rfl 74 rfl d_Scr_readCondition_73 ?_
                exact r_zret rfl (rfl) (Nat.zero_le _) (Nat.zero_le _) d_Scr_readCondition_74 (by rw [← hQ]; exact RQ_mk (r2 := (true, q, tk ++ (if false = true then [2] else []))) (by rw [hr, cL, if_neg (by rw [h26]; decide), if_neg (by rw [h70]; decide)]; try rfl) rfl (show k + tk.length + p ≤ k + q by omega) (fun _ => ⟨by simp, by simp⟩))
            · subst h52
              have hb1 : tk.length + p + 1 ≤ q := hb
              refine r_aload_n rfl 56 rfl d_Scr_readCondition_55 ?_
              refine r_getf (v := .ref (a 3)) gf_Scr_26 0 rfl rfl 59 rfl d_Scr_readCondition_56 ?_
              refine r_bipush ((-3)) rfl 61 rfl d_Scr_readCondition_59 ?_
              refine r_callV1 (st2 := []) (w2 := SV X a gg (a 3) T n kn q ((k + tk.length) + 1) C b (upd (putS c k tk) (k + tk.length) (-3)) s w) lk_Exc_addStep ln_Scr_92 (c_Exc_addStep X (pl [3, 4, 5, 6] a) (nE (k + tk.length) C b) (sE (putS c k tk) s w) (fun _ _ => 0) (-3) (show k + tk.length < 100 by omega)) (by first | decide | omega) rfl rfl (Nat.le_of_ble_eq_true rfl) (Nat.le_of_ble_eq_true rfl) (Nat.le_of_ble_eq_true rfl) [3, 4, 5, 6] rfl rfl 0 rfl rfl rfl rfl rfl 64 rfl d_Scr_readCondition_61 ?_
              refine r_aload_n rfl 65 rfl d_Scr_readCondition_64 ?_
              refine r_bipush (nI 124) rfl 67 rfl d_Scr_readCondition_65 ?_
              refine r_callVA1 (st2 := [.int (bI (aIs n tx 124 q))]) (w2 := SV X a gg (a 3) T n kn (tkP n tx 124 q) ((k + tk.length) + 1) C b (upd (putS c k tk) (k + tk.length) (-3)) s w) lk_Scr_take ln_Scr_54 (c_Scr_take X a gg T n kn q ((k + tk.length) + 1) C b (upd (putS c k tk) (k + tk.length) (-3)) s w tx hn hT hct 124 (by omega) (by decide)) (by first | decide | omega) rfl rfl (Nat.le_of_ble_eq_true rfl) (Nat.le_of_ble_eq_true rfl) (Nat.le_of_ble_eq_true rfl) 0 rfl rfl rfl rfl 70 rfl d_Scr_readCondition_67 ?_
              refine r_if_neB 73 75 rfl rfl d_Scr_readCondition_70 (fun h70 => ?_) (fun h70 => ?_)
              · rw [tkP_t h70]
                have hlt70 := (aIs_t h70 (by omega)).1
                refine r_aload_n rfl 76 rfl d_Scr_readCondition_75 ?_
                refine r_iload_n rfl 77 rfl d_Scr_readCondition_76 ?_
                refine r_callVAQ (st2 := []) (w2 := []) lk_Scr_readFactor ln_Scr_89 (hF D (q + 1) ((k + tk.length) + 1) (upd (putS c k tk) (k + tk.length) (-3)) (by omega) (by omega) (by omega)) (by first | decide | omega) rfl rfl (Nat.le_of_ble_eq_true rfl) (Nat.le_of_ble_eq_true rfl) (Nat.le_of_ble_eq_true rfl) 0 rfl rfl 80 rfl d_Scr_readCondition_77 (fun vv ww hq2 => ?_)
                obtain ⟨rfl, k4, c4, rfl, hk4, hc4⟩ := hq2
                refine ⟨rfl, ?_⟩
                show Runs X (dF + 1) M_Scr_readCondition 0 0 Q 80 [some (.ref (a 0)), some (.int (nI D)), some (.int (bI true)), some (.int (nI i))] [.int (bI ((g (q + 1)).1))] 0 0 (SV X a gg (a 3) T n kn ((g (q + 1)).2.1) k4 C b c4 s w)
                refine r_if_neB 83 85 rfl rfl d_Scr_readCondition_80 (fun h80 => ?_) (fun h80 => ?_)
                · obtain ⟨rfl, rfl⟩ := hc4 h80
                  have hG1 := hG (q + 1) (by omega)
                  unfold aG at hG1
                  refine r_iconst (nI 1) rfl 86 rfl d_Scr_readCondition_85 ?_
                  refine r_istore_n (ls2 := [some (.ref (a 0)), some (.int (nI D)), some (.int (nI 1)), some (.int (nI i))]) 87 rfl d_Scr_readCondition_86 (by decide) rfl rfl ?_
                  refine r_iinc (ls2 := [some (.ref (a 0)), some (.int (nI D)), some (.int (nI 1)), some (.int (nI (i + 1)))]) (nI (i + 1)) rfl (nI_1 _) 90 rfl d_Scr_readCondition_87 (by decide) rfl rfl ?_
                  refine r_goto 14 rfl d_Scr_readCondition_90 ?_
                  refine Runs.cast (ih2 u0 (i + 1) true ((g (q + 1)).2.1) (tk ++ ([2] ++ (g (q + 1)).2.2)) (by omega) (by rw [hr, cL, if_neg (by rw [h26]; decide), if_pos h70, if_pos h80]; simp) ((hG (q + 1) (by omega)).2.1) (by simp only [List.length_append, List.length_cons, List.length_nil]; have e : bN true = 1 := rfl; omega) (Nat.lt_of_succ_lt_succ hmu)) (rfl) rfl (SV_c (by simp only [List.length_append, List.length_cons, List.length_nil]; omega) (putS_4 2 rfl))
                · have hG1 := hG (q + 1) (by omega)
                  unfold aG at hG1
                  refine r_iconst (nI 0) rfl 84 rfl d_Scr_readCondition_83 ?_
                  exact r_zret rfl (rfl) (Nat.zero_le _) (Nat.zero_le _) d_Scr_readCondition_84 (by rw [← hQ]; exact RQ_mk (r2 := (false, (g (q + 1)).2.1, tk ++ [])) (by rw [hr, cL, if_neg (by rw [h26]; decide), if_pos h70, if_neg (by rw [h80]; decide)]; try rfl) rfl (show k4 + p ≤ k + (g (q + 1)).2.1 by omega) (fun z => by cases z))
              · rw [tkP_f h70]
                refine r_iconst (nI 1) rfl 74 rfl d_Scr_readCondition_73 ?_
                exact r_zret rfl (rfl) (Nat.zero_le _) (Nat.zero_le _) d_Scr_readCondition_74 (by rw [← hQ]; exact RQ_mk (r2 := (true, q, tk ++ (if true = true then [2] else []))) (by rw [hr, cL, if_neg (by rw [h26]; decide), if_neg (by rw [h70]; decide)]; try rfl) rfl (show k + tk.length + 1 + p ≤ k + q by omega) (fun _ => ⟨by simp [Nat.add_assoc], putS_s _ _ 2 _⟩))
          · rw [tkP_t h26]
            have hlt26 := (aIs_t h26 (by omega)).1
            refine r_aload_n rfl 30 rfl d_Scr_readCondition_29 ?_
            refine r_iload_n rfl 31 rfl d_Scr_readCondition_30 ?_
            refine r_callVAQ (st2 := []) (w2 := []) lk_Scr_readFactor ln_Scr_89 (hF D (q + 1) (k + tk.length) (putS c k tk) (by omega) (by omega) (by omega)) (by first | decide | omega) rfl rfl (Nat.le_of_ble_eq_true rfl) (Nat.le_of_ble_eq_true rfl) (Nat.le_of_ble_eq_true rfl) 0 rfl rfl 34 rfl d_Scr_readCondition_31 (fun vv ww hq2 => ?_)
            obtain ⟨rfl, k5, c5, rfl, hk5, hc5⟩ := hq2
            refine ⟨rfl, ?_⟩
            show Runs X (dF + 1) M_Scr_readCondition 0 0 Q 34 [some (.ref (a 0)), some (.int (nI D)), some (.int (bI o)), some (.int (nI i))] [.int (bI ((g (q + 1)).1))] 0 0 (SV X a gg (a 3) T n kn ((g (q + 1)).2.1) k5 C b c5 s w)
            refine r_if_neB 37 39 rfl rfl d_Scr_readCondition_34 (fun h34 => ?_) (fun h34 => ?_)
            · obtain ⟨rfl, rfl⟩ := hc5 h34
              have hG1 := hG (q + 1) (by omega)
              unfold aG at hG1
              refine r_aload_n rfl 40 rfl d_Scr_readCondition_39 ?_
              refine r_getf (v := .ref (a 3)) gf_Scr_26 0 rfl rfl 43 rfl d_Scr_readCondition_40 ?_
              refine r_bipush ((-2)) rfl 45 rfl d_Scr_readCondition_43 ?_
              refine r_callV1 (st2 := []) (w2 := SV X a gg (a 3) T n kn ((g (q + 1)).2.1) (((k + tk.length) + (g (q + 1)).2.2.length) + 1) C b (upd (putS (putS c k tk) (k + tk.length) (g (q + 1)).2.2) ((k + tk.length) + (g (q + 1)).2.2.length) (-2)) s w) lk_Exc_addStep ln_Scr_92 (c_Exc_addStep X (pl [3, 4, 5, 6] a) (nE ((k + tk.length) + (g (q + 1)).2.2.length) C b) (sE (putS (putS c k tk) (k + tk.length) (g (q + 1)).2.2) s w) (fun _ _ => 0) (-2) (show (k + tk.length) + (g (q + 1)).2.2.length < 100 by omega)) (by first | decide | omega) rfl rfl (Nat.le_of_ble_eq_true rfl) (Nat.le_of_ble_eq_true rfl) (Nat.le_of_ble_eq_true rfl) [3, 4, 5, 6] rfl rfl 0 rfl rfl rfl rfl rfl 48 rfl d_Scr_readCondition_45 ?_
              refine r_goto 87 rfl d_Scr_readCondition_48 ?_
              refine r_iinc (ls2 := [some (.ref (a 0)), some (.int (nI D)), some (.int (bI o)), some (.int (nI (i + 1)))]) (nI (i + 1)) rfl (nI_1 _) 90 rfl d_Scr_readCondition_87 (by decide) rfl rfl ?_
              refine r_goto 14 rfl d_Scr_readCondition_90 ?_
              refine Runs.cast (ih2 u0 (i + 1) o ((g (q + 1)).2.1) (tk ++ ((g (q + 1)).2.2 ++ [1])) (by omega) (by rw [hr, cL, if_pos h26, if_pos h34]; simp only [List.append_assoc]) ((hG (q + 1) (by omega)).2.1) (by simp only [List.length_append, List.length_cons, List.length_nil]; omega) (Nat.lt_of_succ_lt_succ hmu)) (rfl) rfl (SV_c (by simp only [List.length_append, List.length_cons, List.length_nil]; omega) (putS_3 1 rfl))
            · have hG1 := hG (q + 1) (by omega)
              unfold aG at hG1
              refine r_iconst (nI 0) rfl 38 rfl d_Scr_readCondition_37 ?_
              exact r_zret rfl (rfl) (Nat.zero_le _) (Nat.zero_le _) d_Scr_readCondition_38 (by rw [← hQ]; exact RQ_mk (r2 := (false, (g (q + 1)).2.1, tk ++ [])) (by rw [hr, cL, if_pos h26, if_neg (by rw [h34]; decide)]; try rfl) rfl (show k5 + p ≤ k + (g (q + 1)).2.1 by omega) (fun z => by cases z))
    refine Runs.cast (L14_1 _ 100 0 false ((g p).2.1) ((g p).2.2) (rfl) (by unfold cC; rw [if_pos h5]) (hGp.2.1) (hGp.2.2) (Nat.lt_succ_self _)) (rfl) rfl (rfl)
  · refine r_iconst (nI 0) rfl 9 rfl d_Scr_readCondition_8 ?_
    exact r_zret rfl (rfl) (Nat.zero_le _) (Nat.zero_le _) d_Scr_readCondition_9 (by rw [← hQ]; exact RQ_mk (r2 := (false, (g p).2.1, [])) (by unfold cC; rw [if_neg (by rw [h5]; decide)]) rfl (hk2) (fun z => by cases z))
theorem c_Scr_readFactor1 (X : Xn) (a : Nat → Nat) (gg : Nat → Option Nat) (T : Nat → Int32) (n kn p k C b : Nat) (c s w : Nat → Int32) (tx : Nat → Nat) (hn : n ≤ 100) (hT : ∀ j, j < n → T j = nI (tx j)) (hct : ∀ j, tx j < 128) (r dF : Nat) (hdF : 4 ≤ dF) (hF : ∀ (D p k : Nat) (c : Nat → Int32), D + r = 4 → p ≤ n → k ≤ p → Does X dF M_Scr_readFactor [.ref (a 0), .int (nI D)] (SV X a gg (a 3) T n kn p k C b c s w) 0 0 ((RQ X a gg T n kn C b s w p k c (aF n tx r p)))) (D : Nat) (hp : p ≤ n) (hkp : k ≤ p) (hD : D + (r + 1) = 4) : Does X (dF + 2) M_Scr_readFactor [.ref (a 0), .int (nI D)] (SV X a gg (a 3) T n kn p k C b c s w) 0 0 (RQ X a gg T n kn C b s w p k c (aF n tx (r + 1) p)) := by
  generalize hQ : (RQ X a gg T n kn C b s w p k c (aF n tx (r + 1) p)) = Q
  refine Does.go rfl (Nat.le_of_ble_eq_true rfl) [some (.ref (a 0)), some (.int (nI D))] 0 rfl ?_
  refine r_iload_n rfl 1 rfl d_Scr_readFactor_0 ?_
  refine r_iconst (nI 4) rfl 2 rfl d_Scr_readFactor_1 ?_
  refine r_icmp_geN_f D 4 (by omega) (by omega) 5 rfl 70 rfl d_Scr_readFactor_2 (by omega) ?_
  refine r_aload_n rfl 6 rfl d_Scr_readFactor_5 ?_
  refine r_bipush (nI 33) rfl 8 rfl d_Scr_readFactor_6 ?_
  refine r_callVA1 (st2 := [.int (bI (aIs n tx 33 p))]) (w2 := SV X a gg (a 3) T n kn (tkP n tx 33 p) k C b c s w) lk_Scr_take ln_Scr_54 (c_Scr_take X a gg T n kn p k C b c s w tx hn hT hct 33 (by omega) (by decide)) (by first | decide | omega) rfl rfl (Nat.le_of_ble_eq_true rfl) (Nat.le_of_ble_eq_true rfl) (Nat.le_of_ble_eq_true rfl) 0 rfl rfl rfl rfl 11 rfl d_Scr_readFactor_8 ?_
  refine r_if_eqB 14 36 rfl rfl d_Scr_readFactor_11 (fun h11 => ?_) (fun h11 => ?_)
  · rw [tkP_f h11]
    refine r_aload_n rfl 37 rfl d_Scr_readFactor_36 ?_
    refine r_bipush (nI 40) rfl 39 rfl d_Scr_readFactor_37 ?_
    refine r_callVA1 (st2 := [.int (bI (aIs n tx 40 p))]) (w2 := SV X a gg (a 3) T n kn (tkP n tx 40 p) k C b c s w) lk_Scr_take ln_Scr_54 (c_Scr_take X a gg T n kn p k C b c s w tx hn hT hct 40 (by omega) (by decide)) (by first | decide | omega) rfl rfl (Nat.le_of_ble_eq_true rfl) (Nat.le_of_ble_eq_true rfl) (Nat.le_of_ble_eq_true rfl) 0 rfl rfl rfl rfl 42 rfl d_Scr_readFactor_39 ?_
    refine r_if_eqB 45 70 rfl rfl d_Scr_readFactor_42 (fun h42 => ?_) (fun h42 => ?_)
    · rw [tkP_f h42]
      refine r_aload_n rfl 71 rfl d_Scr_readFactor_70 ?_
      refine r_callVAQ (st2 := []) (w2 := []) lk_Scr_readTest ln_Scr_95 (c_Scr_readTest X a gg T n kn p k C b c s w tx hn hT hct (by omega) (by omega)) (by first | decide | omega) rfl rfl (Nat.le_of_ble_eq_true rfl) (Nat.le_of_ble_eq_true rfl) (Nat.le_of_ble_eq_true rfl) 0 rfl rfl 74 rfl d_Scr_readFactor_71 (fun vv ww hq2 => ?_)
      obtain ⟨rfl, k6, c6, rfl, hk6, hc6⟩ := hq2
      refine ⟨rfl, ?_⟩
      show Runs X (dF + 2) M_Scr_readFactor 0 0 Q 74 [some (.ref (a 0)), some (.int (nI D))] [.int (bI ((aTest n tx p).1))] 0 0 (SV X a gg (a 3) T n kn ((aTest n tx p).2.1) k6 C b c6 s w)
      exact r_zret rfl (bI_nar _) (Nat.zero_le _) (Nat.zero_le _) d_Scr_readFactor_74 (by rw [← hQ]; exact RQ_mk (r2 := aTest n tx p) (by rw [aF, if_neg (by rw [h11]; decide), if_neg (by rw [h42]; decide)]) rfl (hk6) (hc6))
    · rw [tkP_t h42]
      have hlt42 := (aIs_t h42 (by omega)).1
      refine r_aload_n rfl 46 rfl d_Scr_readFactor_45 ?_
      refine r_iload_n rfl 47 rfl d_Scr_readFactor_46 ?_
      refine r_iconst (nI 1) rfl 48 rfl d_Scr_readFactor_47 ?_
      refine r_iadd 49 rfl d_Scr_readFactor_48 ?_
      refine r_topi (nI (D + 1)) (nI_add _ _) ?_
      refine r_callVAQ (st2 := []) (w2 := []) lk_Scr_readCondition ln_Scr_82 ((c_Scr_readCondition X a gg T n kn (p + 1) k C b c s w tx hn hT hct (aF n tx r) r dF hdF hF (fun p hp => aF_g (by omega) hp) (D + 1) (by omega) (by omega) (by omega)).mono (fun v w2 hq => RQ_same (cC_row hn (by omega) (by omega)) hq)) (by first | decide | omega) rfl rfl (Nat.le_of_ble_eq_true rfl) (Nat.le_of_ble_eq_true rfl) (Nat.le_of_ble_eq_true rfl) 0 rfl rfl 52 rfl d_Scr_readFactor_49 (fun vv ww hq2 => ?_)
      obtain ⟨rfl, k7, c7, rfl, hk7, hc7⟩ := hq2
      refine ⟨rfl, ?_⟩
      show Runs X (dF + 2) M_Scr_readFactor 0 0 Q 52 [some (.ref (a 0)), some (.int (nI D))] [.int (bI ((aRow n tx (aRow n tx (aF n tx r) 38 1) 124 2 (p + 1)).1))] 0 0 (SV X a gg (a 3) T n kn ((aRow n tx (aRow n tx (aF n tx r) 38 1) 124 2 (p + 1)).2.1) k7 C b c7 s w)
      refine r_if_eqB 55 68 rfl rfl d_Scr_readFactor_52 (fun h52 => ?_) (fun h52 => ?_)
      · have hG1 := aRR_g (n := n) (r := r) (p := p + 1) (tx := tx) (by omega) (by omega)
        unfold aG at hG1
        refine r_iconst (nI 0) rfl 69 rfl d_Scr_readFactor_68 ?_
        exact r_zret rfl (rfl) (Nat.zero_le _) (Nat.zero_le _) d_Scr_readFactor_69 (by rw [← hQ]; exact RQ_mk (r2 := (false, (aRow n tx (aRow n tx (aF n tx r) 38 1) 124 2 (p + 1)).2.1, (aRow n tx (aRow n tx (aF n tx r) 38 1) 124 2 (p + 1)).2.2)) (by rw [aF, if_neg (by rw [h11]; decide), if_pos h42, if_neg (by rw [h52]; decide)]) rfl (show k7 + p ≤ k + (aRow n tx (aRow n tx (aF n tx r) 38 1) 124 2 (p + 1)).2.1 by omega) (fun z => by cases z))
      · obtain ⟨rfl, rfl⟩ := hc7 h52
        have hG1 := aRR_g (n := n) (r := r) (p := p + 1) (tx := tx) (by omega) (by omega)
        unfold aG at hG1
        refine r_aload_n rfl 56 rfl d_Scr_readFactor_55 ?_
        refine r_bipush (nI 41) rfl 58 rfl d_Scr_readFactor_56 ?_
        refine r_callVA1 (st2 := [.int (bI (aIs n tx 41 ((aRow n tx (aRow n tx (aF n tx r) 38 1) 124 2 (p + 1)).2.1)))]) (w2 := SV X a gg (a 3) T n kn (tkP n tx 41 ((aRow n tx (aRow n tx (aF n tx r) 38 1) 124 2 (p + 1)).2.1)) (k + (aRow n tx (aRow n tx (aF n tx r) 38 1) 124 2 (p + 1)).2.2.length) C b (putS c k (aRow n tx (aRow n tx (aF n tx r) 38 1) 124 2 (p + 1)).2.2) s w) lk_Scr_take ln_Scr_54 (c_Scr_take X a gg T n kn ((aRow n tx (aRow n tx (aF n tx r) 38 1) 124 2 (p + 1)).2.1) (k + (aRow n tx (aRow n tx (aF n tx r) 38 1) 124 2 (p + 1)).2.2.length) C b (putS c k (aRow n tx (aRow n tx (aF n tx r) 38 1) 124 2 (p + 1)).2.2) s w tx hn hT hct 41 (by omega) (by decide)) (by first | decide | omega) rfl rfl (Nat.le_of_ble_eq_true rfl) (Nat.le_of_ble_eq_true rfl) (Nat.le_of_ble_eq_true rfl) 0 rfl rfl rfl rfl 61 rfl d_Scr_readFactor_58 ?_
        refine r_if_eqB 64 68 rfl rfl d_Scr_readFactor_61 (fun h61 => ?_) (fun h61 => ?_)
        · rw [tkP_f h61]
          refine r_iconst (nI 0) rfl 69 rfl d_Scr_readFactor_68 ?_
          exact r_zret rfl (rfl) (Nat.zero_le _) (Nat.zero_le _) d_Scr_readFactor_69 (by rw [← hQ]; exact RQ_mk (r2 := (false, (aRow n tx (aRow n tx (aF n tx r) 38 1) 124 2 (p + 1)).2.1, (aRow n tx (aRow n tx (aF n tx r) 38 1) 124 2 (p + 1)).2.2)) (by rw [aF, if_neg (by rw [h11]; decide), if_pos h42, if_pos h52, if_neg (by rw [h61]; decide)]) rfl (show k + (aRow n tx (aRow n tx (aF n tx r) 38 1) 124 2 (p + 1)).2.2.length + p ≤ k + (aRow n tx (aRow n tx (aF n tx r) 38 1) 124 2 (p + 1)).2.1 by omega) (fun z => by cases z))
        · rw [tkP_t h61]
          have hlt61 := (aIs_t h61 (by omega)).1
          refine r_iconst (nI 1) rfl 65 rfl d_Scr_readFactor_64 ?_
          refine r_goto 69 rfl d_Scr_readFactor_65 ?_
          exact r_zret rfl (rfl) (Nat.zero_le _) (Nat.zero_le _) d_Scr_readFactor_69 (by rw [← hQ]; exact RQ_mk (r2 := (true, (aRow n tx (aRow n tx (aF n tx r) 38 1) 124 2 (p + 1)).2.1 + 1, (aRow n tx (aRow n tx (aF n tx r) 38 1) 124 2 (p + 1)).2.2)) (by rw [aF, if_neg (by rw [h11]; decide), if_pos h42, if_pos h52, if_pos h61]) rfl (show k + (aRow n tx (aRow n tx (aF n tx r) 38 1) 124 2 (p + 1)).2.2.length + p ≤ k + ((aRow n tx (aRow n tx (aF n tx r) 38 1) 124 2 (p + 1)).2.1 + 1) by omega) (fun _ => ⟨rfl, rfl⟩))
  · rw [tkP_t h11]
    have hlt11 := (aIs_t h11 (by omega)).1
    refine r_aload_n rfl 15 rfl d_Scr_readFactor_14 ?_
    refine r_iload_n rfl 16 rfl d_Scr_readFactor_15 ?_
    refine r_iconst (nI 1) rfl 17 rfl d_Scr_readFactor_16 ?_
    refine r_iadd 18 rfl d_Scr_readFactor_17 ?_
    refine r_topi (nI (D + 1)) (nI_add _ _) ?_
    refine r_callVAQ (st2 := []) (w2 := []) lk_Scr_readFactor ln_Scr_89 (hF (D + 1) (p + 1) k c (by omega) (by omega) (by omega)) (by first | decide | omega) rfl rfl (Nat.le_of_ble_eq_true rfl) (Nat.le_of_ble_eq_true rfl) (Nat.le_of_ble_eq_true rfl) 0 rfl rfl 21 rfl d_Scr_readFactor_18 (fun vv ww hq2 => ?_)
    obtain ⟨rfl, k8, c8, rfl, hk8, hc8⟩ := hq2
    refine ⟨rfl, ?_⟩
    show Runs X (dF + 2) M_Scr_readFactor 0 0 Q 21 [some (.ref (a 0)), some (.int (nI D))] [.int (bI ((aF n tx r (p + 1)).1))] 0 0 (SV X a gg (a 3) T n kn ((aF n tx r (p + 1)).2.1) k8 C b c8 s w)
    refine r_if_neB 24 26 rfl rfl d_Scr_readFactor_21 (fun h21 => ?_) (fun h21 => ?_)
    · obtain ⟨rfl, rfl⟩ := hc8 h21
      have hG1 := aF_g (n := n) (r := r) (p := p + 1) (tx := tx) (by omega) (by omega)
      unfold aG at hG1
      refine r_aload_n rfl 27 rfl d_Scr_readFactor_26 ?_
      refine r_getf (v := .ref (a 3)) gf_Scr_26 0 rfl rfl 30 rfl d_Scr_readFactor_27 ?_
      refine r_iconst ((-1)) rfl 31 rfl d_Scr_readFactor_30 ?_
      refine r_callV1 (st2 := []) (w2 := SV X a gg (a 3) T n kn ((aF n tx r (p + 1)).2.1) ((k + (aF n tx r (p + 1)).2.2.length) + 1) C b (upd (putS c k (aF n tx r (p + 1)).2.2) (k + (aF n tx r (p + 1)).2.2.length) (-1)) s w) lk_Exc_addStep ln_Scr_92 (c_Exc_addStep X (pl [3, 4, 5, 6] a) (nE (k + (aF n tx r (p + 1)).2.2.length) C b) (sE (putS c k (aF n tx r (p + 1)).2.2) s w) (fun _ _ => 0) (-1) (show k + (aF n tx r (p + 1)).2.2.length < 100 by omega)) (by first | decide | omega) rfl rfl (Nat.le_of_ble_eq_true rfl) (Nat.le_of_ble_eq_true rfl) (Nat.le_of_ble_eq_true rfl) [3, 4, 5, 6] rfl rfl 0 rfl rfl rfl rfl rfl 34 rfl d_Scr_readFactor_31 ?_
      refine r_iconst (nI 1) rfl 35 rfl d_Scr_readFactor_34 ?_
      exact r_zret rfl (rfl) (Nat.zero_le _) (Nat.zero_le _) d_Scr_readFactor_35 (by rw [← hQ]; exact RQ_mk (r2 := (true, (aF n tx r (p + 1)).2.1, (aF n tx r (p + 1)).2.2 ++ [0])) (by rw [aF, if_pos h11, if_pos h21]) rfl (show k + (aF n tx r (p + 1)).2.2.length + 1 + p ≤ k + (aF n tx r (p + 1)).2.1 by omega) (fun _ => ⟨by simp [Nat.add_assoc], putS_s _ _ 0 _⟩))
    · have hG1 := aF_g (n := n) (r := r) (p := p + 1) (tx := tx) (by omega) (by omega)
      unfold aG at hG1
      refine r_iconst (nI 0) rfl 25 rfl d_Scr_readFactor_24 ?_
      exact r_zret rfl (rfl) (Nat.zero_le _) (Nat.zero_le _) d_Scr_readFactor_25 (by rw [← hQ]; exact RQ_mk (r2 := (false, (aF n tx r (p + 1)).2.1, (aF n tx r (p + 1)).2.2)) (by rw [aF, if_pos h11, if_neg (by rw [h21]; decide)]) rfl (show k8 + p ≤ k + (aF n tx r (p + 1)).2.1 by omega) (fun z => by cases z))
theorem c_Scr_readFactor (X : Xn) (a : Nat → Nat) (gg : Nat → Option Nat) (T : Nat → Int32) (n kn C b : Nat) (s w : Nat → Int32) (tx : Nat → Nat) (hn : n ≤ 100) (hT : ∀ j, j < n → T j = nI (tx j)) (hct : ∀ j, tx j < 128) : ∀ (r D p k : Nat) (c : Nat → Int32), D + r = 4 → p ≤ n → k ≤ p → Does X (4 + 2 * r) M_Scr_readFactor [.ref (a 0), .int (nI D)] (SV X a gg (a 3) T n kn p k C b c s w) 0 0 ((RQ X a gg T n kn C b s w p k c (aF n tx r p)))
  | 0, D, p, k, c, h1, h2, h3 => c_Scr_readFactor0 X a gg T n kn p k C b c s w tx hn hT hct D h2 h3 h1
  | r + 1, D, p, k, c, h1, h2, h3 => c_Scr_readFactor1 X a gg T n kn p k C b c s w tx hn hT hct r (4 + 2 * r) (by omega) (fun D p k c g1 g2 g3 => c_Scr_readFactor X a gg T n kn C b s w tx hn hT hct r D p k c g1 g2 g3) D h2 h3 h1
