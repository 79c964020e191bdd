def M_Mod_is : XM := (⟨"HandshakeBindsModel", "is", "(I)Z"⟩, prog_11_method_15_code, 2, (some .boolean))
theorem d_Mod_is_0 : decode M_Mod_is.2.1 0 = .ok (.aload_n 0, 1) := by decide +kernel
theorem d_Mod_is_1 : decode M_Mod_is.2.1 1 = .ok (.getfield 147, 3) := by decide +kernel
theorem gf_Mod_147 : GF "HandshakeBindsModel" 147 9 9 := ⟨_, _, _, rfl, by decide, i_Mod, inTB 859 (by decide +kernel) rfl⟩
theorem d_Mod_is_4 : decode M_Mod_is.2.1 4 = .ok (.aload_n 0, 1) := by decide +kernel
theorem d_Mod_is_5 : decode M_Mod_is.2.1 5 = .ok (.getfield 144, 3) := by decide +kernel
theorem d_Mod_is_8 : decode M_Mod_is.2.1 8 = .ok (.if_icmp .eq 16, 3) := by decide +kernel
theorem d_Mod_is_24 : decode M_Mod_is.2.1 24 = .ok (.iconst 0, 1) := by decide +kernel
theorem d_Mod_is_25 : decode M_Mod_is.2.1 25 = .ok (.ireturn, 1) := by decide +kernel
theorem d_Mod_is_11 : decode M_Mod_is.2.1 11 = .ok (.aload_n 0, 1) := by decide +kernel
theorem d_Mod_is_12 : decode M_Mod_is.2.1 12 = .ok (.getfield 27, 3) := by decide +kernel
theorem d_Mod_is_15 : decode M_Mod_is.2.1 15 = .ok (.aload_n 0, 1) := by decide +kernel
theorem d_Mod_is_16 : decode M_Mod_is.2.1 16 = .ok (.getfield 147, 3) := by decide +kernel
theorem d_Mod_is_19 : decode M_Mod_is.2.1 19 = .ok (.iaload, 1) := by decide +kernel
theorem d_Mod_is_20 : decode M_Mod_is.2.1 20 = .ok (.iload_n 1, 1) := by decide +kernel
theorem d_Mod_is_21 : decode M_Mod_is.2.1 21 = .ok (.if_icmp .eq 5, 3) := by decide +kernel
theorem d_Mod_is_26 : decode M_Mod_is.2.1 26 = .ok (.aload_n 0, 1) := by decide +kernel
theorem d_Mod_is_27 : decode M_Mod_is.2.1 27 = .ok (.dup, 1) := by decide +kernel
theorem d_Mod_is_28 : decode M_Mod_is.2.1 28 = .ok (.getfield 147, 3) := by decide +kernel
theorem d_Mod_is_31 : decode M_Mod_is.2.1 31 = .ok (.iconst 1, 1) := by decide +kernel
theorem d_Mod_is_32 : decode M_Mod_is.2.1 32 = .ok (.iadd, 1) := by decide +kernel
theorem d_Mod_is_33 : decode M_Mod_is.2.1 33 = .ok (.putfield 147, 3) := by decide +kernel
theorem pf_Mod_147 : PF "HandshakeBindsModel" 147 9 9 (.int) false := ⟨_, _, _, t_Mod, rfl, by decide, i_Mod, t_Mod_ok, n_Mod, inTB 859 (by decide +kernel) rfl, rfl, t_Mod_ok 9 (by decide), fun _ => rfl⟩
theorem d_Mod_is_36 : decode M_Mod_is.2.1 36 = .ok (.iconst 1, 1) := by decide +kernel
theorem d_Mod_is_37 : decode M_Mod_is.2.1 37 = .ok (.ireturn, 1) := by decide +kernel
def M_Mod_isDigit : XM := (⟨"HandshakeBindsModel", "isDigit", "()Z"⟩, prog_11_method_16_code, 1, (some .boolean))
theorem d_Mod_isDigit_0 : decode M_Mod_isDigit.2.1 0 = .ok (.aload_n 0, 1) := by decide +kernel
theorem d_Mod_isDigit_1 : decode M_Mod_isDigit.2.1 1 = .ok (.getfield 147, 3) := by decide +kernel
theorem d_Mod_isDigit_4 : decode M_Mod_isDigit.2.1 4 = .ok (.aload_n 0, 1) := by decide +kernel
theorem d_Mod_isDigit_5 : decode M_Mod_isDigit.2.1 5 = .ok (.getfield 144, 3) := by decide +kernel
theorem d_Mod_isDigit_8 : decode M_Mod_isDigit.2.1 8 = .ok (.if_icmp .ge 35, 3) := by decide +kernel
theorem d_Mod_isDigit_43 : decode M_Mod_isDigit.2.1 43 = .ok (.iconst 0, 1) := by decide +kernel
theorem d_Mod_isDigit_44 : decode M_Mod_isDigit.2.1 44 = .ok (.ireturn, 1) := by decide +kernel
theorem d_Mod_isDigit_11 : decode M_Mod_isDigit.2.1 11 = .ok (.aload_n 0, 1) := by decide +kernel
theorem d_Mod_isDigit_12 : decode M_Mod_isDigit.2.1 12 = .ok (.getfield 27, 3) := by decide +kernel
theorem d_Mod_isDigit_15 : decode M_Mod_isDigit.2.1 15 = .ok (.aload_n 0, 1) := by decide +kernel
theorem d_Mod_isDigit_16 : decode M_Mod_isDigit.2.1 16 = .ok (.getfield 147, 3) := by decide +kernel
theorem d_Mod_isDigit_19 : decode M_Mod_isDigit.2.1 19 = .ok (.iaload, 1) := by decide +kernel
theorem d_Mod_isDigit_20 : decode M_Mod_isDigit.2.1 20 = .ok (.bipush 48, 2) := by decide +kernel
theorem d_Mod_isDigit_22 : decode M_Mod_isDigit.2.1 22 = .ok (.if_icmp .lt 21, 3) := by decide +kernel
theorem d_Mod_isDigit_25 : decode M_Mod_isDigit.2.1 25 = .ok (.aload_n 0, 1) := by decide +kernel
theorem d_Mod_isDigit_26 : decode M_Mod_isDigit.2.1 26 = .ok (.getfield 27, 3) := by decide +kernel
theorem d_Mod_isDigit_29 : decode M_Mod_isDigit.2.1 29 = .ok (.aload_n 0, 1) := by decide +kernel
theorem d_Mod_isDigit_30 : decode M_Mod_isDigit.2.1 30 = .ok (.getfield 147, 3) := by decide +kernel
theorem d_Mod_isDigit_33 : decode M_Mod_isDigit.2.1 33 = .ok (.iaload, 1) := by decide +kernel
theorem d_Mod_isDigit_34 : decode M_Mod_isDigit.2.1 34 = .ok (.bipush 57, 2) := by decide +kernel
theorem d_Mod_isDigit_36 : decode M_Mod_isDigit.2.1 36 = .ok (.if_icmp .gt 7, 3) := by decide +kernel
theorem d_Mod_isDigit_39 : decode M_Mod_isDigit.2.1 39 = .ok (.iconst 1, 1) := by decide +kernel
theorem d_Mod_isDigit_40 : decode M_Mod_isDigit.2.1 40 = .ok (.goto 4, 3) := by decide +kernel
def M_Mod_isNumber : XM := (⟨"HandshakeBindsModel", "isNumber", "()Z"⟩, prog_11_method_17_code, 1, (some .boolean))
theorem d_Mod_isNumber_0 : decode M_Mod_isNumber.2.1 0 = .ok (.aload_n 0, 1) := by decide +kernel
theorem d_Mod_isNumber_1 : decode M_Mod_isNumber.2.1 1 = .ok (.iconst 0, 1) := by decide +kernel
theorem d_Mod_isNumber_2 : decode M_Mod_isNumber.2.1 2 = .ok (.putfield 150, 3) := by decide +kernel
theorem pf_Mod_150 : PF "HandshakeBindsModel" 150 9 10 (.int) false := ⟨_, _, _, t_Mod, rfl, by decide, i_Mod, t_Mod_ok, n_Mod, inTB 860 (by decide +kernel) rfl, rfl, t_Mod_ok 10 (by decide), fun _ => rfl⟩
theorem d_Mod_isNumber_5 : decode M_Mod_isNumber.2.1 5 = .ok (.aload_n 0, 1) := by decide +kernel
theorem d_Mod_isNumber_6 : decode M_Mod_isNumber.2.1 6 = .ok (.iconst 0, 1) := by decide +kernel
theorem d_Mod_isNumber_7 : decode M_Mod_isNumber.2.1 7 = .ok (.putfield 153, 3) := by decide +kernel
theorem pf_Mod_153 : PF "HandshakeBindsModel" 153 9 11 (.int) false := ⟨_, _, _, t_Mod, rfl, by decide, i_Mod, t_Mod_ok, n_Mod, inTB 861 (by decide +kernel) rfl, rfl, t_Mod_ok 11 (by decide), fun _ => rfl⟩
theorem d_Mod_isNumber_10 : decode M_Mod_isNumber.2.1 10 = .ok (.aload_n 0, 1) := by decide +kernel
theorem d_Mod_isNumber_11 : decode M_Mod_isNumber.2.1 11 = .ok (.getfield 153, 3) := by decide +kernel
theorem gf_Mod_153 : GF "HandshakeBindsModel" 153 9 11 := ⟨_, _, _, rfl, by decide, i_Mod, inTB 861 (by decide +kernel) rfl⟩
theorem d_Mod_isNumber_14 : decode M_Mod_isNumber.2.1 14 = .ok (.iconst 2, 1) := by decide +kernel
theorem d_Mod_isNumber_15 : decode M_Mod_isNumber.2.1 15 = .ok (.if_icmp .ge 57, 3) := by decide +kernel
theorem d_Mod_isNumber_72 : decode M_Mod_isNumber.2.1 72 = .ok (.aload_n 0, 1) := by decide +kernel
theorem d_Mod_isNumber_73 : decode M_Mod_isNumber.2.1 73 = .ok (.getfield 153, 3) := by decide +kernel
theorem d_Mod_isNumber_76 : decode M_Mod_isNumber.2.1 76 = .ok (.ifCond .le 7, 3) := by decide +kernel
theorem d_Mod_isNumber_83 : decode M_Mod_isNumber.2.1 83 = .ok (.iconst 0, 1) := by decide +kernel
theorem d_Mod_isNumber_84 : decode M_Mod_isNumber.2.1 84 = .ok (.ireturn, 1) := by decide +kernel
theorem d_Mod_isNumber_79 : decode M_Mod_isNumber.2.1 79 = .ok (.iconst 1, 1) := by decide +kernel
theorem d_Mod_isNumber_80 : decode M_Mod_isNumber.2.1 80 = .ok (.goto 4, 3) := by decide +kernel
theorem d_Mod_isNumber_18 : decode M_Mod_isNumber.2.1 18 = .ok (.aload_n 0, 1) := by decide +kernel
theorem d_Mod_isNumber_19 : decode M_Mod_isNumber.2.1 19 = .ok (.invokevirtual 156, 3) := by decide +kernel
theorem ln_Mod_156 : Cond.methodLink "HandshakeBindsModel" 156 M_Mod_isDigit.1 ∈ TB := inTB 1071 (by decide +kernel) rfl
theorem lk_Mod_isDigit : LVt M_Mod_isDigit 0 := ⟨⟨inTB 72 (by decide +kernel) rfl, inTB 1074 (by decide +kernel) rfl, ⟨by decide, by decide, by decide +kernel⟩, by decide⟩, inTB 1073 (by decide +kernel) rfl, inTB 31 (by decide +kernel) rfl⟩
theorem d_Mod_isNumber_22 : decode M_Mod_isNumber.2.1 22 = .ok (.ifCond .eq 50, 3) := by decide +kernel
theorem d_Mod_isNumber_25 : decode M_Mod_isNumber.2.1 25 = .ok (.aload_n 0, 1) := by decide +kernel
theorem d_Mod_isNumber_26 : decode M_Mod_isNumber.2.1 26 = .ok (.bipush 10, 2) := by decide +kernel
theorem d_Mod_isNumber_28 : decode M_Mod_isNumber.2.1 28 = .ok (.aload_n 0, 1) := by decide +kernel
theorem d_Mod_isNumber_29 : decode M_Mod_isNumber.2.1 29 = .ok (.getfield 150, 3) := by decide +kernel
theorem gf_Mod_150 : GF "HandshakeBindsModel" 150 9 10 := ⟨_, _, _, rfl, by decide, i_Mod, inTB 860 (by decide +kernel) rfl⟩
theorem d_Mod_isNumber_32 : decode M_Mod_isNumber.2.1 32 = .ok (.imul, 1) := by decide +kernel
theorem d_Mod_isNumber_33 : decode M_Mod_isNumber.2.1 33 = .ok (.aload_n 0, 1) := by decide +kernel
theorem d_Mod_isNumber_34 : decode M_Mod_isNumber.2.1 34 = .ok (.getfield 27, 3) := by decide +kernel
theorem d_Mod_isNumber_37 : decode M_Mod_isNumber.2.1 37 = .ok (.aload_n 0, 1) := by decide +kernel
theorem d_Mod_isNumber_38 : decode M_Mod_isNumber.2.1 38 = .ok (.getfield 147, 3) := by decide +kernel
theorem d_Mod_isNumber_41 : decode M_Mod_isNumber.2.1 41 = .ok (.iaload, 1) := by decide +kernel
theorem d_Mod_isNumber_42 : decode M_Mod_isNumber.2.1 42 = .ok (.iadd, 1) := by decide +kernel
theorem d_Mod_isNumber_43 : decode M_Mod_isNumber.2.1 43 = .ok (.bipush 48, 2) := by decide +kernel
theorem d_Mod_isNumber_45 : decode M_Mod_isNumber.2.1 45 = .ok (.isub, 1) := by decide +kernel
theorem d_Mod_isNumber_46 : decode M_Mod_isNumber.2.1 46 = .ok (.putfield 150, 3) := by decide +kernel
theorem d_Mod_isNumber_49 : decode M_Mod_isNumber.2.1 49 = .ok (.aload_n 0, 1) := by decide +kernel
theorem d_Mod_isNumber_50 : decode M_Mod_isNumber.2.1 50 = .ok (.dup, 1) := by decide +kernel
theorem d_Mod_isNumber_51 : decode M_Mod_isNumber.2.1 51 = .ok (.getfield 147, 3) := by decide +kernel
theorem d_Mod_isNumber_54 : decode M_Mod_isNumber.2.1 54 = .ok (.iconst 1, 1) := by decide +kernel
theorem d_Mod_isNumber_55 : decode M_Mod_isNumber.2.1 55 = .ok (.iadd, 1) := by decide +kernel
theorem d_Mod_isNumber_56 : decode M_Mod_isNumber.2.1 56 = .ok (.putfield 147, 3) := by decide +kernel
theorem d_Mod_isNumber_59 : decode M_Mod_isNumber.2.1 59 = .ok (.aload_n 0, 1) := by decide +kernel
theorem d_Mod_isNumber_60 : decode M_Mod_isNumber.2.1 60 = .ok (.dup, 1) := by decide +kernel
theorem d_Mod_isNumber_61 : decode M_Mod_isNumber.2.1 61 = .ok (.getfield 153, 3) := by decide +kernel
theorem d_Mod_isNumber_64 : decode M_Mod_isNumber.2.1 64 = .ok (.iconst 1, 1) := by decide +kernel
theorem d_Mod_isNumber_65 : decode M_Mod_isNumber.2.1 65 = .ok (.iadd, 1) := by decide +kernel
theorem d_Mod_isNumber_66 : decode M_Mod_isNumber.2.1 66 = .ok (.putfield 153, 3) := by decide +kernel
theorem d_Mod_isNumber_69 : decode M_Mod_isNumber.2.1 69 = .ok (.goto (-59), 3) := by decide +kernel
def M_Mod_isAll : XM := (⟨"HandshakeBindsModel", "isAll", "(Ljava/lang/String;)Z"⟩, prog_11_method_18_code, 3, (some .boolean))
theorem d_Mod_isAll_0 : decode M_Mod_isAll.2.1 0 = .ok (.iconst 0, 1) := by decide +kernel
theorem d_Mod_isAll_1 : decode M_Mod_isAll.2.1 1 = .ok (.istore_n 2, 1) := by decide +kernel
theorem d_Mod_isAll_2 : decode M_Mod_isAll.2.1 2 = .ok (.iload_n 2, 1) := by decide +kernel
theorem d_Mod_isAll_3 : decode M_Mod_isAll.2.1 3 = .ok (.aload_n 1, 1) := by decide +kernel
theorem d_Mod_isAll_4 : decode M_Mod_isAll.2.1 4 = .ok (.invokevirtual 160, 3) := by decide +kernel
theorem ln_Mod_160 : Cond.methodLink "HandshakeBindsModel" 160 M_JStr_length.1 ∈ TB := inTB 1059 (by decide +kernel) rfl
theorem d_Mod_isAll_7 : decode M_Mod_isAll.2.1 7 = .ok (.if_icmp .ge 23, 3) := by decide +kernel
theorem d_Mod_isAll_30 : decode M_Mod_isAll.2.1 30 = .ok (.iconst 1, 1) := by decide +kernel
theorem d_Mod_isAll_31 : decode M_Mod_isAll.2.1 31 = .ok (.ireturn, 1) := by decide +kernel
theorem d_Mod_isAll_10 : decode M_Mod_isAll.2.1 10 = .ok (.aload_n 0, 1) := by decide +kernel
theorem d_Mod_isAll_11 : decode M_Mod_isAll.2.1 11 = .ok (.aload_n 1, 1) := by decide +kernel
theorem d_Mod_isAll_12 : decode M_Mod_isAll.2.1 12 = .ok (.iload_n 2, 1) := by decide +kernel
theorem d_Mod_isAll_13 : decode M_Mod_isAll.2.1 13 = .ok (.invokevirtual 165, 3) := by decide +kernel
theorem ln_Mod_165 : Cond.methodLink "HandshakeBindsModel" 165 M_JStr_charAt.1 ∈ TB := inTB 1060 (by decide +kernel) rfl
theorem lk_JStr_charAt : LVt M_JStr_charAt 1 := ⟨⟨inTB 73 (by decide +kernel) rfl, inTB 547 (by decide +kernel) rfl, ⟨by decide, by decide, by decide +kernel⟩, by decide⟩, inTB 545 (by decide +kernel) rfl, inTB 546 (by decide +kernel) rfl⟩
theorem d_Mod_isAll_16 : decode M_Mod_isAll.2.1 16 = .ok (.invokevirtual 169, 3) := by decide +kernel
theorem ln_Mod_169 : Cond.methodLink "HandshakeBindsModel" 169 M_Mod_is.1 ∈ TB := inTB 1061 (by decide +kernel) rfl
theorem lk_Mod_is : LVt M_Mod_is 1 := ⟨⟨inTB 72 (by decide +kernel) rfl, inTB 1064 (by decide +kernel) rfl, ⟨by decide, by decide, by decide +kernel⟩, by decide⟩, inTB 1063 (by decide +kernel) rfl, inTB 29 (by decide +kernel) rfl⟩
theorem d_Mod_isAll_19 : decode M_Mod_isAll.2.1 19 = .ok (.ifCond .ne 5, 3) := by decide +kernel
theorem d_Mod_isAll_24 : decode M_Mod_isAll.2.1 24 = .ok (.iinc 2 1, 3) := by decide +kernel
theorem d_Mod_isAll_27 : decode M_Mod_isAll.2.1 27 = .ok (.goto (-25), 3) := by decide +kernel
theorem d_Mod_isAll_22 : decode M_Mod_isAll.2.1 22 = .ok (.iconst 0, 1) := by decide +kernel
theorem d_Mod_isAll_23 : decode M_Mod_isAll.2.1 23 = .ok (.ireturn, 1) := by decide +kernel
def M_Mod_codes : XM := (⟨"HandshakeBindsModel", "codes", "(I)Z"⟩, prog_11_method_19_code, 2, (some .boolean))
theorem d_Mod_codes_0 : decode M_Mod_codes.2.1 0 = .ok (.aload_n 0, 1) := by decide +kernel
theorem d_Mod_codes_1 : decode M_Mod_codes.2.1 1 = .ok (.getfield 45, 3) := by decide +kernel
theorem d_Mod_codes_4 : decode M_Mod_codes.2.1 4 = .ok (.aload_n 0, 1) := by decide +kernel
theorem d_Mod_codes_5 : decode M_Mod_codes.2.1 5 = .ok (.dup, 1) := by decide +kernel
theorem d_Mod_codes_6 : decode M_Mod_codes.2.1 6 = .ok (.getfield 172, 3) := by decide +kernel
theorem gf_Mod_172 : GF "HandshakeBindsModel" 172 9 21 := ⟨_, _, _, rfl, by decide, i_Mod, inTB 871 (by decide +kernel) rfl⟩
theorem d_Mod_codes_9 : decode M_Mod_codes.2.1 9 = .ok (.dup_x1, 1) := by decide +kernel
theorem d_Mod_codes_10 : decode M_Mod_codes.2.1 10 = .ok (.iconst 1, 1) := by decide +kernel
theorem d_Mod_codes_11 : decode M_Mod_codes.2.1 11 = .ok (.iadd, 1) := by decide +kernel
theorem d_Mod_codes_12 : decode M_Mod_codes.2.1 12 = .ok (.putfield 172, 3) := by decide +kernel
theorem pf_Mod_172 : PF "HandshakeBindsModel" 172 9 21 (.int) false := ⟨_, _, _, t_Mod, rfl, by decide, i_Mod, t_Mod_ok, n_Mod, inTB 871 (by decide +kernel) rfl, rfl, t_Mod_ok 21 (by decide), fun _ => rfl⟩
theorem d_Mod_codes_15 : decode M_Mod_codes.2.1 15 = .ok (.iload_n 1, 1) := by decide +kernel
theorem d_Mod_codes_16 : decode M_Mod_codes.2.1 16 = .ok (.iastore, 1) := by decide +kernel
theorem d_Mod_codes_17 : decode M_Mod_codes.2.1 17 = .ok (.iconst 1, 1) := by decide +kernel
theorem d_Mod_codes_18 : decode M_Mod_codes.2.1 18 = .ok (.ireturn, 1) := by decide +kernel
def M_Mod_isTest : XM := (⟨"HandshakeBindsModel", "isTest", "()Z"⟩, prog_11_method_20_code, 3, (some .boolean))
theorem d_Mod_isTest_0 : decode M_Mod_isTest.2.1 0 = .ok (.aload_n 0, 1) := by decide +kernel
theorem d_Mod_isTest_1 : decode M_Mod_isTest.2.1 1 = .ok (.getfield 147, 3) := by decide +kernel
theorem d_Mod_isTest_4 : decode M_Mod_isTest.2.1 4 = .ok (.aload_n 0, 1) := by decide +kernel
theorem d_Mod_isTest_5 : decode M_Mod_isTest.2.1 5 = .ok (.getfield 144, 3) := by decide +kernel
theorem d_Mod_isTest_8 : decode M_Mod_isTest.2.1 8 = .ok (.if_icmp .ge 32, 3) := by decide +kernel
theorem d_Mod_isTest_40 : decode M_Mod_isTest.2.1 40 = .ok (.iconst (-1), 1) := by decide +kernel
theorem d_Mod_isTest_41 : decode M_Mod_isTest.2.1 41 = .ok (.istore_n 1, 1) := by decide +kernel
theorem d_Mod_isTest_42 : decode M_Mod_isTest.2.1 42 = .ok (.iload_n 1, 1) := by decide +kernel
theorem d_Mod_isTest_43 : decode M_Mod_isTest.2.1 43 = .ok (.ifCond .ge 5, 3) := by decide +kernel
theorem d_Mod_isTest_46 : decode M_Mod_isTest.2.1 46 = .ok (.iconst 0, 1) := by decide +kernel
theorem d_Mod_isTest_47 : decode M_Mod_isTest.2.1 47 = .ok (.ireturn, 1) := by decide +kernel
theorem d_Mod_isTest_11 : decode M_Mod_isTest.2.1 11 = .ok (.aload_n 0, 1) := by decide +kernel
theorem d_Mod_isTest_12 : decode M_Mod_isTest.2.1 12 = .ok (.getfield 27, 3) := by decide +kernel
theorem d_Mod_isTest_15 : decode M_Mod_isTest.2.1 15 = .ok (.aload_n 0, 1) := by decide +kernel
theorem d_Mod_isTest_16 : decode M_Mod_isTest.2.1 16 = .ok (.getfield 147, 3) := by decide +kernel
theorem d_Mod_isTest_19 : decode M_Mod_isTest.2.1 19 = .ok (.iaload, 1) := by decide +kernel
theorem d_Mod_isTest_20 : decode M_Mod_isTest.2.1 20 = .ok (.ifCond .le 20, 3) := by decide +kernel
theorem d_Mod_isTest_23 : decode M_Mod_isTest.2.1 23 = .ok (.ldc 175, 2) := by decide +kernel
theorem d_Mod_isTest_25 : decode M_Mod_isTest.2.1 25 = .ok (.aload_n 0, 1) := by decide +kernel
theorem d_Mod_isTest_26 : decode M_Mod_isTest.2.1 26 = .ok (.getfield 27, 3) := by decide +kernel
theorem d_Mod_isTest_29 : decode M_Mod_isTest.2.1 29 = .ok (.aload_n 0, 1) := by decide +kernel
theorem d_Mod_isTest_30 : decode M_Mod_isTest.2.1 30 = .ok (.getfield 147, 3) := by decide +kernel
theorem d_Mod_isTest_33 : decode M_Mod_isTest.2.1 33 = .ok (.iaload, 1) := by decide +kernel
theorem d_Mod_isTest_34 : decode M_Mod_isTest.2.1 34 = .ok (.invokevirtual 177, 3) := by decide +kernel
theorem ln_Mod_177 : Cond.methodLink "HandshakeBindsModel" 177 M_JStr_indexOf_0.1 ∈ TB := inTB 1100 (by decide +kernel) rfl
theorem lk_JStr_indexOf_0 : LVt M_JStr_indexOf_0 1 := ⟨⟨inTB 73 (by decide +kernel) rfl, inTB 1103 (by decide +kernel) rfl, ⟨by decide, by decide, by decide +kernel⟩, by decide⟩, inTB 1101 (by decide +kernel) rfl, inTB 1102 (by decide +kernel) rfl⟩
theorem d_Mod_isTest_37 : decode M_Mod_isTest.2.1 37 = .ok (.goto 4, 3) := by decide +kernel
theorem d_Mod_isTest_48 : decode M_Mod_isTest.2.1 48 = .ok (.aload_n 0, 1) := by decide +kernel
theorem d_Mod_isTest_49 : decode M_Mod_isTest.2.1 49 = .ok (.dup, 1) := by decide +kernel
theorem d_Mod_isTest_50 : decode M_Mod_isTest.2.1 50 = .ok (.getfield 147, 3) := by decide +kernel
theorem d_Mod_isTest_53 : decode M_Mod_isTest.2.1 53 = .ok (.iconst 1, 1) := by decide +kernel
theorem d_Mod_isTest_54 : decode M_Mod_isTest.2.1 54 = .ok (.iadd, 1) := by decide +kernel
theorem d_Mod_isTest_55 : decode M_Mod_isTest.2.1 55 = .ok (.putfield 147, 3) := by decide +kernel
theorem d_Mod_isTest_58 : decode M_Mod_isTest.2.1 58 = .ok (.aload_n 0, 1) := by decide +kernel
theorem d_Mod_isTest_59 : decode M_Mod_isTest.2.1 59 = .ok (.getfield 147, 3) := by decide +kernel
theorem d_Mod_isTest_62 : decode M_Mod_isTest.2.1 62 = .ok (.aload_n 0, 1) := by decide +kernel
theorem d_Mod_isTest_63 : decode M_Mod_isTest.2.1 63 = .ok (.getfield 144, 3) := by decide +kernel
theorem d_Mod_isTest_66 : decode M_Mod_isTest.2.1 66 = .ok (.if_icmp .ge 32, 3) := by decide +kernel
theorem d_Mod_isTest_98 : decode M_Mod_isTest.2.1 98 = .ok (.iconst (-1), 1) := by decide +kernel
theorem d_Mod_isTest_99 : decode M_Mod_isTest.2.1 99 = .ok (.istore_n 2, 1) := by decide +kernel
theorem d_Mod_isTest_100 : decode M_Mod_isTest.2.1 100 = .ok (.iload_n 2, 1) := by decide +kernel
theorem d_Mod_isTest_101 : decode M_Mod_isTest.2.1 101 = .ok (.ifCond .ge 5, 3) := by decide +kernel
theorem d_Mod_isTest_104 : decode M_Mod_isTest.2.1 104 = .ok (.iconst 0, 1) := by decide +kernel
theorem d_Mod_isTest_105 : decode M_Mod_isTest.2.1 105 = .ok (.ireturn, 1) := by decide +kernel
theorem d_Mod_isTest_69 : decode M_Mod_isTest.2.1 69 = .ok (.aload_n 0, 1) := by decide +kernel
theorem d_Mod_isTest_70 : decode M_Mod_isTest.2.1 70 = .ok (.getfield 27, 3) := by decide +kernel
theorem d_Mod_isTest_73 : decode M_Mod_isTest.2.1 73 = .ok (.aload_n 0, 1) := by decide +kernel
theorem d_Mod_isTest_74 : decode M_Mod_isTest.2.1 74 = .ok (.getfield 147, 3) := by decide +kernel
theorem d_Mod_isTest_77 : decode M_Mod_isTest.2.1 77 = .ok (.iaload, 1) := by decide +kernel
theorem d_Mod_isTest_78 : decode M_Mod_isTest.2.1 78 = .ok (.ifCond .le 20, 3) := by decide +kernel
theorem d_Mod_isTest_81 : decode M_Mod_isTest.2.1 81 = .ok (.ldc 180, 2) := by decide +kernel
theorem d_Mod_isTest_83 : decode M_Mod_isTest.2.1 83 = .ok (.aload_n 0, 1) := by decide +kernel
theorem d_Mod_isTest_84 : decode M_Mod_isTest.2.1 84 = .ok (.getfield 27, 3) := by decide +kernel
theorem d_Mod_isTest_87 : decode M_Mod_isTest.2.1 87 = .ok (.aload_n 0, 1) := by decide +kernel
theorem d_Mod_isTest_88 : decode M_Mod_isTest.2.1 88 = .ok (.getfield 147, 3) := by decide +kernel
theorem d_Mod_isTest_91 : decode M_Mod_isTest.2.1 91 = .ok (.iaload, 1) := by decide +kernel
theorem d_Mod_isTest_92 : decode M_Mod_isTest.2.1 92 = .ok (.invokevirtual 177, 3) := by decide +kernel
theorem d_Mod_isTest_95 : decode M_Mod_isTest.2.1 95 = .ok (.goto 4, 3) := by decide +kernel
theorem d_Mod_isTest_106 : decode M_Mod_isTest.2.1 106 = .ok (.aload_n 0, 1) := by decide +kernel
theorem d_Mod_isTest_107 : decode M_Mod_isTest.2.1 107 = .ok (.dup, 1) := by decide +kernel
theorem d_Mod_isTest_108 : decode M_Mod_isTest.2.1 108 = .ok (.getfield 147, 3) := by decide +kernel
theorem d_Mod_isTest_111 : decode M_Mod_isTest.2.1 111 = .ok (.iconst 1, 1) := by decide +kernel
theorem d_Mod_isTest_112 : decode M_Mod_isTest.2.1 112 = .ok (.iadd, 1) := by decide +kernel
theorem d_Mod_isTest_113 : decode M_Mod_isTest.2.1 113 = .ok (.putfield 147, 3) := by decide +kernel
theorem d_Mod_isTest_116 : decode M_Mod_isTest.2.1 116 = .ok (.aload_n 0, 1) := by decide +kernel
theorem d_Mod_isTest_117 : decode M_Mod_isTest.2.1 117 = .ok (.invokevirtual 182, 3) := by decide +kernel
theorem ln_Mod_182 : Cond.methodLink "HandshakeBindsModel" 182 M_Mod_isNumber.1 ∈ TB := inTB 1067 (by decide +kernel) rfl
theorem lk_Mod_isNumber : LVt M_Mod_isNumber 0 := ⟨⟨inTB 72 (by decide +kernel) rfl, inTB 1070 (by decide +kernel) rfl, ⟨by decide, by decide, by decide +kernel⟩, by decide⟩, inTB 1069 (by decide +kernel) rfl, inTB 30 (by decide +kernel) rfl⟩
theorem d_Mod_isTest_120 : decode M_Mod_isTest.2.1 120 = .ok (.ifCond .eq 31, 3) := by decide +kernel
theorem d_Mod_isTest_151 : decode M_Mod_isTest.2.1 151 = .ok (.iconst 0, 1) := by decide +kernel
theorem d_Mod_isTest_152 : decode M_Mod_isTest.2.1 152 = .ok (.ireturn, 1) := by decide +kernel
theorem d_Mod_isTest_123 : decode M_Mod_isTest.2.1 123 = .ok (.aload_n 0, 1) := by decide +kernel
theorem d_Mod_isTest_124 : decode M_Mod_isTest.2.1 124 = .ok (.iconst 3, 1) := by decide +kernel
theorem d_Mod_isTest_125 : decode M_Mod_isTest.2.1 125 = .ok (.sipush 300, 3) := by decide +kernel
theorem d_Mod_isTest_128 : decode M_Mod_isTest.2.1 128 = .ok (.iload_n 1, 1) := by decide +kernel
theorem d_Mod_isTest_129 : decode M_Mod_isTest.2.1 129 = .ok (.imul, 1) := by decide +kernel
theorem d_Mod_isTest_130 : decode M_Mod_isTest.2.1 130 = .ok (.iadd, 1) := by decide +kernel
theorem d_Mod_isTest_131 : decode M_Mod_isTest.2.1 131 = .ok (.bipush 100, 2) := by decide +kernel
theorem d_Mod_isTest_133 : decode M_Mod_isTest.2.1 133 = .ok (.iload_n 2, 1) := by decide +kernel
theorem d_Mod_isTest_134 : decode M_Mod_isTest.2.1 134 = .ok (.imul, 1) := by decide +kernel
theorem d_Mod_isTest_135 : decode M_Mod_isTest.2.1 135 = .ok (.iadd, 1) := by decide +kernel
theorem d_Mod_isTest_136 : decode M_Mod_isTest.2.1 136 = .ok (.aload_n 0, 1) := by decide +kernel
theorem d_Mod_isTest_137 : decode M_Mod_isTest.2.1 137 = .ok (.getfield 150, 3) := by decide +kernel
theorem d_Mod_isTest_140 : decode M_Mod_isTest.2.1 140 = .ok (.iadd, 1) := by decide +kernel
theorem d_Mod_isTest_141 : decode M_Mod_isTest.2.1 141 = .ok (.invokevirtual 185, 3) := by decide +kernel
theorem ln_Mod_185 : Cond.methodLink "HandshakeBindsModel" 185 M_Mod_codes.1 ∈ TB := inTB 1091 (by decide +kernel) rfl
theorem lk_Mod_codes : LVt M_Mod_codes 1 := ⟨⟨inTB 72 (by decide +kernel) rfl, inTB 1094 (by decide +kernel) rfl, ⟨by decide, by decide, by decide +kernel⟩, by decide⟩, inTB 1093 (by decide +kernel) rfl, inTB 36 (by decide +kernel) rfl⟩
theorem d_Mod_isTest_144 : decode M_Mod_isTest.2.1 144 = .ok (.ifCond .eq 7, 3) := by decide +kernel
theorem d_Mod_isTest_147 : decode M_Mod_isTest.2.1 147 = .ok (.iconst 1, 1) := by decide +kernel
theorem d_Mod_isTest_148 : decode M_Mod_isTest.2.1 148 = .ok (.goto 4, 3) := by decide +kernel
def M_Mod_isOpened : XM := (⟨"HandshakeBindsModel", "isOpened", "(I)Z"⟩, prog_11_method_21_code, 2, (some .boolean))
theorem d_Mod_isOpened_0 : decode M_Mod_isOpened.2.1 0 = .ok (.aload_n 0, 1) := by decide +kernel
theorem d_Mod_isOpened_1 : decode M_Mod_isOpened.2.1 1 = .ok (.getfield 188, 3) := by decide +kernel
theorem gf_Mod_188 : GF "HandshakeBindsModel" 188 9 12 := ⟨_, _, _, rfl, by decide, i_Mod, inTB 862 (by decide +kernel) rfl⟩
theorem d_Mod_isOpened_4 : decode M_Mod_isOpened.2.1 4 = .ok (.iconst 4, 1) := by decide +kernel
theorem d_Mod_isOpened_5 : decode M_Mod_isOpened.2.1 5 = .ok (.if_icmp .eq 11, 3) := by decide +kernel
theorem d_Mod_isOpened_16 : decode M_Mod_isOpened.2.1 16 = .ok (.iconst 0, 1) := by decide +kernel
theorem d_Mod_isOpened_17 : decode M_Mod_isOpened.2.1 17 = .ok (.ireturn, 1) := by decide +kernel
theorem d_Mod_isOpened_8 : decode M_Mod_isOpened.2.1 8 = .ok (.aload_n 0, 1) := by decide +kernel
theorem d_Mod_isOpened_9 : decode M_Mod_isOpened.2.1 9 = .ok (.iload_n 1, 1) := by decide +kernel
theorem d_Mod_isOpened_10 : decode M_Mod_isOpened.2.1 10 = .ok (.invokevirtual 169, 3) := by decide +kernel
theorem d_Mod_isOpened_13 : decode M_Mod_isOpened.2.1 13 = .ok (.ifCond .ne 5, 3) := by decide +kernel
theorem d_Mod_isOpened_18 : decode M_Mod_isOpened.2.1 18 = .ok (.aload_n 0, 1) := by decide +kernel
theorem d_Mod_isOpened_19 : decode M_Mod_isOpened.2.1 19 = .ok (.dup, 1) := by decide +kernel
theorem d_Mod_isOpened_20 : decode M_Mod_isOpened.2.1 20 = .ok (.getfield 188, 3) := by decide +kernel
theorem d_Mod_isOpened_23 : decode M_Mod_isOpened.2.1 23 = .ok (.iconst 1, 1) := by decide +kernel
theorem d_Mod_isOpened_24 : decode M_Mod_isOpened.2.1 24 = .ok (.iadd, 1) := by decide +kernel
theorem d_Mod_isOpened_25 : decode M_Mod_isOpened.2.1 25 = .ok (.putfield 188, 3) := by decide +kernel
theorem pf_Mod_188 : PF "HandshakeBindsModel" 188 9 12 (.int) false := ⟨_, _, _, t_Mod, rfl, by decide, i_Mod, t_Mod_ok, n_Mod, inTB 862 (by decide +kernel) rfl, rfl, t_Mod_ok 12 (by decide), fun _ => rfl⟩
theorem d_Mod_isOpened_28 : decode M_Mod_isOpened.2.1 28 = .ok (.iconst 1, 1) := by decide +kernel
theorem d_Mod_isOpened_29 : decode M_Mod_isOpened.2.1 29 = .ok (.ireturn, 1) := by decide +kernel
theorem c_Mod_is (X : Xn) (a ν : Nat → Nat) (σ : Nat → Nat → Int32) (τ : Nat → Int64) (tx : Nat → Nat) (ht : ν 7 ≤ 100) (hct : ∀ x, tx x < 128) (c : Nat) (hc : c < 128) (s : TS) (hax : s.ax ≤ ν 7) : Does X 1 M_Mod_is [.ref (a 0), .int (nI c)] (MT X a ν σ τ tx s) 0 0 (fun (vv : Option Value) (ww : va_W) => vv = some (.int (bI (tIs (ν 7) tx c s).1)) ∧ ww = MT X a ν σ τ tx ((tIs (ν 7) tx c s).2)) := by
  generalize hQ : (fun (vv : Option Value) (ww : va_W) => vv = some (.int (bI (tIs (ν 7) tx c s).1)) ∧ ww = MT X a ν σ τ tx ((tIs (ν 7) tx c s).2)) = Q
  refine Does.go rfl (Nat.le_of_ble_eq_true rfl) [some (.ref (a 0)), some (.int (nI c))] 0 rfl ?_
  refine r_aload_n rfl 1 rfl d_Mod_is_0 ?_
  refine r_getf (v := .int (nI s.ax)) gf_Mod_147 0 rfl rfl 4 rfl d_Mod_is_1 ?_
  refine r_aload_n rfl 5 rfl d_Mod_is_4 ?_
  refine r_getf (v := .int (nI (ν 7))) gf_Mod_144 0 rfl rfl 8 rfl d_Mod_is_5 ?_
  refine r_icmp_eqN s.ax (ν 7) (by omega) (by omega) 11 24 rfl rfl d_Mod_is_8 (fun h8 => ?_) (fun h8 => ?_)
  · refine r_iconst (nI 0) rfl 25 rfl d_Mod_is_24 ?_
    exact r_zret rfl (rfl) (Nat.zero_le _) (Nat.zero_le _) d_Mod_is_25 (by rw [← hQ]; exact zR (q := tIs (ν 7) tx c s) (b := false) (by first | rw [tIs, if_pos h8]; done | rw [tIs, if_neg h8, if_neg h21]) rfl)
  · refine r_aload_n rfl 12 rfl d_Mod_is_11 ?_
    refine r_getf (v := .ref (a 8)) gf_Mod_27 0 rfl rfl 15 rfl d_Mod_is_12 ?_
    refine r_aload_n rfl 16 rfl d_Mod_is_15 ?_
    refine r_getf (v := .int (nI s.ax)) gf_Mod_147 0 rfl rfl 19 rfl d_Mod_is_16 ?_
    refine r_iald (f := (fun x => nI (tx x))) 6 rfl s.ax rfl (by omega) (by omega) 20 rfl d_Mod_is_19 ?_
    refine r_iload_n rfl 21 rfl d_Mod_is_20 ?_
    refine r_icmp_eqN (tx s.ax) c (Nat.lt_trans (hct _) (by decide)) (by omega) 24 26 rfl rfl d_Mod_is_21 (fun h21 => ?_) (fun h21 => ?_)
    · refine r_aload_n rfl 27 rfl d_Mod_is_26 ?_
      refine r_dup rfl 28 rfl d_Mod_is_27 ?_
      refine r_getf (v := .int (nI s.ax)) gf_Mod_147 0 rfl rfl 31 rfl d_Mod_is_28 ?_
      refine r_iconst (nI 1) rfl 32 rfl d_Mod_is_31 ?_
      refine r_iadd 33 rfl d_Mod_is_32 ?_
      refine r_topi (nI (s.ax + 1)) (nI_add _ _) ?_
      refine r_putf (w2 := MT X a ν σ τ tx (TSm (s.ax + 1) s.dg s.op s.cd s.vl s.c)) pf_Mod_147 0 rfl (rfl) rfl (Nat.le_of_ble_eq_true rfl) rfl 36 rfl d_Mod_is_33 ?_
      refine r_iconst (nI 1) rfl 37 rfl d_Mod_is_36 ?_
      exact r_zret rfl (rfl) (Nat.zero_le _) (Nat.zero_le _) d_Mod_is_37 (by rw [← hQ]; exact zR (q := tIs (ν 7) tx c s) (b := true) (by first | rw [tIs, if_pos h8]; done | rw [tIs, if_neg h8, if_pos h21]) rfl)
    · refine r_iconst (nI 0) rfl 25 rfl d_Mod_is_24 ?_
      exact r_zret rfl (rfl) (Nat.zero_le _) (Nat.zero_le _) d_Mod_is_25 (by rw [← hQ]; exact zR (q := tIs (ν 7) tx c s) (b := false) (by first | rw [tIs, if_pos h8]; done | rw [tIs, if_neg h8, if_neg h21]) rfl)
theorem c_Mod_isDigit (X : Xn) (a ν : Nat → Nat) (σ : Nat → Nat → Int32) (τ : Nat → Int64) (tx : Nat → Nat) (ht : ν 7 ≤ 100) (hct : ∀ x, tx x < 128) (s : TS) (hax : s.ax ≤ ν 7) : Does X 1 M_Mod_isDigit [.ref (a 0)] (MT X a ν σ τ tx s) 0 0 (fun (vv : Option Value) (ww : va_W) => vv = some (.int (bI (tDg (ν 7) tx s))) ∧ ww = MT X a ν σ τ tx s) := by
  generalize hQ : (fun (vv : Option Value) (ww : va_W) => vv = some (.int (bI (tDg (ν 7) tx s))) ∧ ww = MT X a ν σ τ tx s) = Q
  refine Does.go rfl (Nat.le_of_ble_eq_true rfl) [some (.ref (a 0))] 0 rfl ?_
  refine r_aload_n rfl 1 rfl d_Mod_isDigit_0 ?_
  refine r_getf (v := .int (nI s.ax)) gf_Mod_147 0 rfl rfl 4 rfl d_Mod_isDigit_1 ?_
  refine r_aload_n rfl 5 rfl d_Mod_isDigit_4 ?_
  refine r_getf (v := .int (nI (ν 7))) gf_Mod_144 0 rfl rfl 8 rfl d_Mod_isDigit_5 ?_
  refine r_icmp_geN s.ax (ν 7) (by omega) (by omega) 11 43 rfl rfl d_Mod_isDigit_8 (fun h8 => ?_) (fun h8 => ?_)
  · refine r_iconst (nI 0) rfl 44 rfl d_Mod_isDigit_43 ?_
    exact r_zret rfl (rfl) (Nat.zero_le _) (Nat.zero_le _) d_Mod_isDigit_44 (by rw [← hQ]; exact ⟨by rw [show tDg (ν 7) tx s = false from by unfold tDg; simp; omega]; rfl, rfl⟩)
  · refine r_aload_n rfl 12 rfl d_Mod_isDigit_11 ?_
    refine r_getf (v := .ref (a 8)) gf_Mod_27 0 rfl rfl 15 rfl d_Mod_isDigit_12 ?_
    refine r_aload_n rfl 16 rfl d_Mod_isDigit_15 ?_
    refine r_getf (v := .int (nI s.ax)) gf_Mod_147 0 rfl rfl 19 rfl d_Mod_isDigit_16 ?_
    refine r_iald (f := (fun x => nI (tx x))) 6 rfl s.ax rfl (by omega) (by omega) 20 rfl d_Mod_isDigit_19 ?_
    refine r_bipush (nI 48) rfl 22 rfl d_Mod_isDigit_20 ?_
    refine r_icmp_ltN (tx s.ax) 48 (Nat.lt_trans (hct _) (by decide)) (by omega) 25 43 rfl rfl d_Mod_isDigit_22 (fun h22 => ?_) (fun h22 => ?_)
    · refine r_iconst (nI 0) rfl 44 rfl d_Mod_isDigit_43 ?_
      exact r_zret rfl (rfl) (Nat.zero_le _) (Nat.zero_le _) d_Mod_isDigit_44 (by rw [← hQ]; exact ⟨by rw [show tDg (ν 7) tx s = false from by unfold tDg; simp; omega]; rfl, rfl⟩)
    · refine r_aload_n rfl 26 rfl d_Mod_isDigit_25 ?_
      refine r_getf (v := .ref (a 8)) gf_Mod_27 0 rfl rfl 29 rfl d_Mod_isDigit_26 ?_
      refine r_aload_n rfl 30 rfl d_Mod_isDigit_29 ?_
      refine r_getf (v := .int (nI s.ax)) gf_Mod_147 0 rfl rfl 33 rfl d_Mod_isDigit_30 ?_
      refine r_iald (f := (fun x => nI (tx x))) 6 rfl s.ax rfl (by omega) (by omega) 34 rfl d_Mod_isDigit_33 ?_
      refine r_bipush (nI 57) rfl 36 rfl d_Mod_isDigit_34 ?_
      refine r_icmp_gtN (tx s.ax) 57 (Nat.lt_trans (hct _) (by decide)) (by omega) 39 43 rfl rfl d_Mod_isDigit_36 (fun h36 => ?_) (fun h36 => ?_)
      · refine r_iconst (nI 0) rfl 44 rfl d_Mod_isDigit_43 ?_
        exact r_zret rfl (rfl) (Nat.zero_le _) (Nat.zero_le _) d_Mod_isDigit_44 (by rw [← hQ]; exact ⟨by rw [show tDg (ν 7) tx s = false from by unfold tDg; simp; omega]; rfl, rfl⟩)
      · refine r_iconst (nI 1) rfl 40 rfl d_Mod_isDigit_39 ?_
        refine r_goto 44 rfl d_Mod_isDigit_40 ?_
        exact r_zret rfl (rfl) (Nat.zero_le _) (Nat.zero_le _) d_Mod_isDigit_44 (by rw [← hQ]; exact ⟨by rw [show tDg (ν 7) tx s = true from by unfold tDg; simp; omega]; rfl, rfl⟩)
theorem c_Mod_isNumber (X : Xn) (a ν : Nat → Nat) (σ : Nat → Nat → Int32) (τ : Nat → Int64) (tx : Nat → Nat) (ht : ν 7 ≤ 100) (hct : ∀ x, tx x < 128) (s : TS) (hax : s.ax ≤ ν 7) : Does X 2 M_Mod_isNumber [.ref (a 0)] (MT X a ν σ τ tx s) 0 0 (fun (vv : Option Value) (ww : va_W) => vv = some (.int (bI (tNum (ν 7) tx s).1)) ∧ ww = MT X a ν σ τ tx ((tNum (ν 7) tx s).2)) := by
  generalize hQ : (fun (vv : Option Value) (ww : va_W) => vv = some (.int (bI (tNum (ν 7) tx s).1)) ∧ ww = MT X a ν σ τ tx ((tNum (ν 7) tx s).2)) = Q
  refine Does.go rfl (Nat.le_of_ble_eq_true rfl) [some (.ref (a 0))] 0 rfl ?_
  refine r_aload_n rfl 1 rfl d_Mod_isNumber_0 ?_
  refine r_iconst (nI 0) rfl 2 rfl d_Mod_isNumber_1 ?_
  refine r_putf (w2 := MT X a ν σ τ tx (TSm s.ax s.dg s.op s.cd 0 s.c)) pf_Mod_150 0 rfl (rfl) rfl (Nat.le_of_ble_eq_true rfl) rfl 5 rfl d_Mod_isNumber_2 ?_
  refine r_aload_n rfl 6 rfl d_Mod_isNumber_5 ?_
  refine r_iconst (nI 0) rfl 7 rfl d_Mod_isNumber_6 ?_
  refine r_putf (w2 := MT X a ν σ τ tx (TSm s.ax 0 s.op s.cd 0 s.c)) pf_Mod_153 0 rfl (rfl) rfl (Nat.le_of_ble_eq_true rfl) rfl 10 rfl d_Mod_isNumber_7 ?_
  have L10_1 : ∀ (f : Nat) (u : Nat) (r : TS), (r.dg + u = 2) → (tNumL (ν 7) tx u r = tNumL (ν 7) tx 2 (TSm s.ax 0 s.op s.cd 0 s.c)) → (r.ax ≤ ν 7) → ((r.dg = 0 → r.vl = 0) ∧ (r.dg = 1 → r.vl ≤ 9) ∧ r.vl ≤ 99) → u < f → Runs X 2 M_Mod_isNumber 0 0 Q 10 [some (.ref (a 0))] [] 0 0 (MT X a ν σ τ tx r) := by
    intro f
    induction f with
    | zero => intro u r hf hr hx hv hmu; exact absurd hmu (Nat.not_lt_zero _)
    | succ f ih2 =>
      intro u r hf hr hx hv hmu
      refine r_aload_n rfl 11 rfl d_Mod_isNumber_10 ?_
      refine r_getf (v := .int (nI r.dg)) gf_Mod_153 0 rfl rfl 14 rfl d_Mod_isNumber_11 ?_
      refine r_iconst (nI 2) rfl 15 rfl d_Mod_isNumber_14 ?_
      refine r_icmp_geN r.dg 2 (by omega) (by omega) 18 72 rfl rfl d_Mod_isNumber_15 (fun h15 => ?_) (fun h15 => ?_)
      · refine r_aload_n rfl 73 rfl d_Mod_isNumber_72 ?_
        refine r_getf (v := .int (nI r.dg)) gf_Mod_153 0 rfl rfl 76 rfl d_Mod_isNumber_73 ?_
        refine r_if_leN r.dg (by omega) 79 83 rfl rfl d_Mod_isNumber_76 (fun h76 => ?_) (fun h76 => ?_)
        · refine r_iconst (nI 0) rfl 84 rfl d_Mod_isNumber_83 ?_
          exact r_zret rfl (rfl) (Nat.zero_le _) (Nat.zero_le _) d_Mod_isNumber_84 (by rw [← hQ]; exact zR (q := tNum (ν 7) tx s) (b := false) (st := r) (by unfold tNum; rw [← hr]; have hu : u = 0 := (by omega); rw [hu, tNumL]; exact congrArg (fun z => (z, r)) (decide_eq_false (by omega))) rfl)
        · refine r_iconst (nI 1) rfl 80 rfl d_Mod_isNumber_79 ?_
          refine r_goto 84 rfl d_Mod_isNumber_80 ?_
          exact r_zret rfl (rfl) (Nat.zero_le _) (Nat.zero_le _) d_Mod_isNumber_84 (by rw [← hQ]; exact zR (q := tNum (ν 7) tx s) (b := true) (st := r) (by unfold tNum; rw [← hr]; have hu : u = 0 := (by omega); rw [hu, tNumL]; exact congrArg (fun z => (z, r)) (decide_eq_true (by omega))) rfl)
      · obtain ⟨u0, rfl⟩ : ∃ u0, u = u0 + 1 := ⟨u - 1, by omega⟩
        refine r_aload_n rfl 19 rfl d_Mod_isNumber_18 ?_
        refine r_callVA1 (st2 := [.int (bI (tDg (ν 7) tx r))]) (w2 := MT X a ν σ τ tx r) lk_Mod_isDigit ln_Mod_156 (c_Mod_isDigit X a ν σ τ tx ht hct r (by first | assumption | omega)) (by first | decide | omega) rfl rfl (Nat.le_of_ble_eq_true rfl) (Nat.le_of_ble_eq_true rfl) (Nat.le_of_ble_eq_true rfl) 0 rfl rfl rfl rfl 22 rfl d_Mod_isNumber_19 ?_
        refine r_if_eqB 25 72 rfl rfl d_Mod_isNumber_22 (fun h22 => ?_) (fun h22 => ?_)
        · refine r_aload_n rfl 73 rfl d_Mod_isNumber_72 ?_
          refine r_getf (v := .int (nI r.dg)) gf_Mod_153 0 rfl rfl 76 rfl d_Mod_isNumber_73 ?_
          refine r_if_leN r.dg (by omega) 79 83 rfl rfl d_Mod_isNumber_76 (fun h76 => ?_) (fun h76 => ?_)
          · refine r_iconst (nI 0) rfl 84 rfl d_Mod_isNumber_83 ?_
            exact r_zret rfl (rfl) (Nat.zero_le _) (Nat.zero_le _) d_Mod_isNumber_84 (by rw [← hQ]; exact zR (q := tNum (ν 7) tx s) (b := false) (st := r) (by unfold tNum; rw [← hr]; rw [tNumL, if_neg (by rw [h22]; decide)]; exact congrArg (fun z => (z, r)) (decide_eq_false (by omega))) rfl)
          · refine r_iconst (nI 1) rfl 80 rfl d_Mod_isNumber_79 ?_
            refine r_goto 84 rfl d_Mod_isNumber_80 ?_
            exact r_zret rfl (rfl) (Nat.zero_le _) (Nat.zero_le _) d_Mod_isNumber_84 (by rw [← hQ]; exact zR (q := tNum (ν 7) tx s) (b := true) (st := r) (by unfold tNum; rw [← hr]; rw [tNumL, if_neg (by rw [h22]; decide)]; exact congrArg (fun z => (z, r)) (decide_eq_true (by omega))) rfl)
        · have hd1 : r.ax < ν 7 ∧ 48 ≤ tx r.ax ∧ tx r.ax ≤ 57 := of_decide_eq_true h22
          refine r_aload_n rfl 26 rfl d_Mod_isNumber_25 ?_
          refine r_bipush (nI 10) rfl 28 rfl d_Mod_isNumber_26 ?_
          refine r_aload_n rfl 29 rfl d_Mod_isNumber_28 ?_
          refine r_getf (v := .int (nI r.vl)) gf_Mod_150 0 rfl rfl 32 rfl d_Mod_isNumber_29 ?_
          refine r_imul 33 rfl d_Mod_isNumber_32 ?_
          refine r_topi (nI (10 * r.vl)) (pk_mul _ _) ?_
          refine r_aload_n rfl 34 rfl d_Mod_isNumber_33 ?_
          refine r_getf (v := .ref (a 8)) gf_Mod_27 0 rfl rfl 37 rfl d_Mod_isNumber_34 ?_
          refine r_aload_n rfl 38 rfl d_Mod_isNumber_37 ?_
          refine r_getf (v := .int (nI r.ax)) gf_Mod_147 0 rfl rfl 41 rfl d_Mod_isNumber_38 ?_
          refine r_iald (f := (fun x => nI (tx x))) 6 rfl r.ax rfl (by omega) (by omega) 42 rfl d_Mod_isNumber_41 ?_
          refine r_iadd 43 rfl d_Mod_isNumber_42 ?_
          refine r_topi (nI ((10 * r.vl) + (tx r.ax))) (nI_add _ _) ?_
          refine r_bipush (nI 48) rfl 45 rfl d_Mod_isNumber_43 ?_
          refine r_isub 46 rfl d_Mod_isNumber_45 ?_
          refine r_topi (nI (10 * r.vl + tx r.ax - 48)) (nI_sub (by omega)) ?_
          refine r_putf (w2 := MT X a ν σ τ tx (TSm r.ax r.dg r.op r.cd (10 * r.vl + tx r.ax - 48) r.c)) pf_Mod_150 0 rfl (rfl) rfl (Nat.le_of_ble_eq_true rfl) rfl 49 rfl d_Mod_isNumber_46 ?_
          refine r_aload_n rfl 50 rfl d_Mod_isNumber_49 ?_
          refine r_dup rfl 51 rfl d_Mod_isNumber_50 ?_
          refine r_getf (v := .int (nI r.ax)) gf_Mod_147 0 rfl rfl 54 rfl d_Mod_isNumber_51 ?_
          refine r_iconst (nI 1) rfl 55 rfl d_Mod_isNumber_54 ?_
          refine r_iadd 56 rfl d_Mod_isNumber_55 ?_
          refine r_topi (nI (r.ax + 1)) (nI_add _ _) ?_
          refine r_putf (w2 := MT X a ν σ τ tx (TSm (r.ax + 1) r.dg r.op r.cd (10 * r.vl + tx r.ax - 48) r.c)) pf_Mod_147 0 rfl (rfl) rfl (Nat.le_of_ble_eq_true rfl) rfl 59 rfl d_Mod_isNumber_56 ?_
          refine r_aload_n rfl 60 rfl d_Mod_isNumber_59 ?_
          refine r_dup rfl 61 rfl d_Mod_isNumber_60 ?_
          refine r_getf (v := .int (nI r.dg)) gf_Mod_153 0 rfl rfl 64 rfl d_Mod_isNumber_61 ?_
          refine r_iconst (nI 1) rfl 65 rfl d_Mod_isNumber_64 ?_
          refine r_iadd 66 rfl d_Mod_isNumber_65 ?_
          refine r_topi (nI (r.dg + 1)) (nI_add _ _) ?_
          refine r_putf (w2 := MT X a ν σ τ tx (TSm (r.ax + 1) (r.dg + 1) r.op r.cd (10 * r.vl + tx r.ax - 48) r.c)) pf_Mod_153 0 rfl (rfl) rfl (Nat.le_of_ble_eq_true rfl) rfl 69 rfl d_Mod_isNumber_66 ?_
          refine r_goto 10 rfl d_Mod_isNumber_69 ?_
          exact ih2 u0 (TSm (r.ax + 1) (r.dg + 1) r.op r.cd (10 * r.vl + tx r.ax - 48) r.c) (by show r.dg + 1 + u0 = 2; omega) (by rw [← hr, tNumL, if_pos h22]) (by show r.ax + 1 ≤ ν 7; omega) (⟨fun z => absurd z (Nat.succ_ne_zero _), fun z => (by have z : r.dg + 1 = 1 := z; have := hv.1 (by omega); show 10 * r.vl + tx r.ax - 48 ≤ 9; omega), (by have := hv.2; show 10 * r.vl + tx r.ax - 48 ≤ 99; by_cases z : r.dg = 0; have := hv.1 z; omega; have := hv.2.1 (by omega); omega)⟩) (by omega)
  exact L10_1 _ 2 (TSm s.ax 0 s.op s.cd 0 s.c) (rfl) (rfl) (hax) (⟨fun _ => rfl, fun _ => Nat.zero_le _, Nat.zero_le _⟩) (Nat.lt_succ_self _)
theorem c_Mod_isAll (X : Xn) (a ν : Nat → Nat) (σ : Nat → Nat → Int32) (τ : Nat → Int64) (tx : Nat → Nat) (ht : ν 7 ≤ 100) (hct : ∀ x, tx x < 128) (i : Nat) (hi8 : i < 8) (s : TS) (hax : s.ax ≤ ν 7) : Does X 6 M_Mod_isAll [.ref (a 0), .ref (X.2.2.2 (10 + i))] (MT X a ν σ τ tx s) 0 0 (fun (vv : Option Value) (ww : va_W) => vv = some (.int (bI (tAll (ν 7) tx (litC i) s).1)) ∧ ww = MT X a ν σ τ tx ((tAll (ν 7) tx (litC i) s).2)) := by
  generalize hQ : (fun (vv : Option Value) (ww : va_W) => vv = some (.int (bI (tAll (ν 7) tx (litC i) s).1)) ∧ ww = MT X a ν σ τ tx ((tAll (ν 7) tx (litC i) s).2)) = Q
  refine Does.go rfl (Nat.le_of_ble_eq_true rfl) [some (.ref (a 0)), some (.ref (X.2.2.2 (10 + i))), none] 1 rfl ?_
  have hl6 : ∀ i : Fin 8, litL.getD i.val 0 ≤ 6 := by decide +kernel
  have hl7 := hl6 ⟨i, hi8⟩
  have hl8 := litC_len ⟨i, hi8⟩
  simp only at hl7 hl8
  refine r_iconst (nI 0) rfl 1 rfl d_Mod_isAll_0 ?_
  refine r_istore_n (ls2 := [some (.ref (a 0)), some (.ref (X.2.2.2 (10 + i))), some (.int (nI 0))]) 2 rfl d_Mod_isAll_1 (by decide) rfl rfl ?_
  have L2_1 : ∀ (f : Nat) (k : Nat) (r : TS), (k ≤ litL.getD i 0) → (tAll (ν 7) tx ((litC i).drop k) r = tAll (ν 7) tx (litC i) s) → (r.ax ≤ ν 7) → litL.getD i 0 - k < f → Runs X 6 M_Mod_isAll 0 0 Q 2 [some (.ref (a 0)), some (.ref (X.2.2.2 (10 + i))), some (.int (nI k))] [] 0 0 (MT X a ν σ τ tx r) := by
    intro f
    induction f with
    | zero => intro k r hk hr hx hmu; exact absurd hmu (Nat.not_lt_zero _)
    | succ f ih2 =>
      intro k r hk hr hx hmu
      refine r_iload_n rfl 3 rfl d_Mod_isAll_2 ?_
      refine r_aload_n rfl 4 rfl d_Mod_isAll_3 ?_
      refine r_callVs1 (st2 := [.int (nI (litL.getD i 0)), .int (nI k)]) i hi8 rfl lk_JStr_length ln_Mod_160 (c_JStr_length X i hi8) (by first | decide | omega) rfl rfl (Nat.le_of_ble_eq_true rfl) (Nat.le_of_ble_eq_true rfl) (Nat.le_of_ble_eq_true rfl) rfl 7 rfl d_Mod_isAll_4 ?_
      refine r_icmp_geN k (litL.getD i 0) (by omega) (by omega) 10 30 rfl rfl d_Mod_isAll_7 (fun h7 => ?_) (fun h7 => ?_)
      · refine r_iconst (nI 1) rfl 31 rfl d_Mod_isAll_30 ?_
        exact r_zret rfl (rfl) (Nat.zero_le _) (Nat.zero_le _) d_Mod_isAll_31 (by rw [← hQ]; exact zR (q := tAll (ν 7) tx (litC i) s) (b := true) (by rw [← hr]; rw [List.drop_eq_nil_of_le (by omega)]; rfl) rfl)
      · have h7n : k < litL.getD i 0 := by omega
        have hk6 : k < 6 := by omega
        refine r_aload_n rfl 11 rfl d_Mod_isAll_10 ?_
        refine r_aload_n rfl 12 rfl d_Mod_isAll_11 ?_
        refine r_iload_n rfl 13 rfl d_Mod_isAll_12 ?_
        refine r_callVs1 (st2 := [.int (chS i k), .ref (a 0)]) i hi8 rfl lk_JStr_charAt ln_Mod_165 (c_JStr_charAt X i hi8 k (by first | assumption | omega) (by first | assumption | omega)) (by first | decide | omega) rfl rfl (Nat.le_of_ble_eq_true rfl) (Nat.le_of_ble_eq_true rfl) (Nat.le_of_ble_eq_true rfl) rfl 16 rfl d_Mod_isAll_13 ?_
        have hch := chN ⟨i, hi8⟩ ⟨k, hk6⟩ h7n
        simp only at hch
        refine r_topi (nI ((litC i).getD k 0)) hch.1 ?_
        have hc1 := hch.2
        refine r_callVA1 (st2 := [.int (bI ((tIs (ν 7) tx ((litC i).getD k 0) r).1))]) (w2 := MT X a ν σ τ tx ((tIs (ν 7) tx ((litC i).getD k 0) r).2)) lk_Mod_is ln_Mod_169 (c_Mod_is X a ν σ τ tx ht hct ((litC i).getD k 0) (by omega) r (by first | assumption | omega)) (by first | decide | omega) rfl rfl (Nat.le_of_ble_eq_true rfl) (Nat.le_of_ble_eq_true rfl) (Nat.le_of_ble_eq_true rfl) 0 rfl rfl rfl rfl 19 rfl d_Mod_isAll_16 ?_
        refine r_if_neB 22 24 rfl rfl d_Mod_isAll_19 (fun h19 => ?_) (fun h19 => ?_)
        · refine r_iinc (ls2 := [some (.ref (a 0)), some (.ref (X.2.2.2 (10 + i))), some (.int (nI (k + 1)))]) (nI (k + 1)) rfl (nI_1 _) 27 rfl d_Mod_isAll_24 (by decide) rfl rfl ?_
          refine r_goto 2 rfl d_Mod_isAll_27 ?_
          exact ih2 (k + 1) ((tIs (ν 7) tx ((litC i).getD k 0) r).2) (by omega) (by rw [← hr, tAll_s (k := k) (by omega), if_pos h19]) ((tIs_g hx).2.1 hx) (by omega)
        · refine r_iconst (nI 0) rfl 23 rfl d_Mod_isAll_22 ?_
          exact r_zret rfl (rfl) (Nat.zero_le _) (Nat.zero_le _) d_Mod_isAll_23 (by rw [← hQ]; exact zR (q := tAll (ν 7) tx (litC i) s) (b := false) (by rw [← hr]; rw [tAll_s (k := k) (by omega), if_neg (by rw [h19]; decide)]) rfl)
  exact L2_1 _ 0 s (Nat.zero_le _) (rfl) (hax) (Nat.lt_succ_self _)
theorem c_Mod_codes (X : Xn) (a ν : Nat → Nat) (σ : Nat → Nat → Int32) (τ : Nat → Int64) (tx : Nat → Nat) (ht : ν 7 ≤ 100) (hct : ∀ x, tx x < 128) (t : Nat) (s : TS) (hcd : s.cd < 800) : Does X 1 M_Mod_codes [.ref (a 0), .int (nI t)] (MT X a ν σ τ tx s) 0 0 (fun (vv : Option Value) (ww : va_W) => vv = some (.int (nI 1)) ∧ ww = MT X a ν σ τ tx (tCode t s)) := by
  generalize hQ : (fun (vv : Option Value) (ww : va_W) => vv = some (.int (nI 1)) ∧ ww = MT X a ν σ τ tx (tCode t s)) = Q
  refine Does.go rfl (Nat.le_of_ble_eq_true rfl) [some (.ref (a 0)), some (.int (nI t))] 0 rfl ?_
  refine r_aload_n rfl 1 rfl d_Mod_codes_0 ?_
  refine r_getf (v := .ref (a 20)) gf_Mod_45 0 rfl rfl 4 rfl d_Mod_codes_1 ?_
  refine r_aload_n rfl 5 rfl d_Mod_codes_4 ?_
  refine r_dup rfl 6 rfl d_Mod_codes_5 ?_
  refine r_getf (v := .int (nI s.cd)) gf_Mod_172 0 rfl rfl 9 rfl d_Mod_codes_6 ?_
  refine r_dup_x1 rfl rfl 10 rfl d_Mod_codes_9 ?_
  refine r_iconst (nI 1) rfl 11 rfl d_Mod_codes_10 ?_
  refine r_iadd 12 rfl d_Mod_codes_11 ?_
  refine r_topi (nI (s.cd + 1)) (nI_add _ _) ?_
  refine r_putf (w2 := MT X a ν σ τ tx (TSm s.ax s.dg s.op (s.cd + 1) s.vl s.c)) pf_Mod_172 0 rfl (rfl) rfl (Nat.le_of_ble_eq_true rfl) rfl 15 rfl d_Mod_codes_12 ?_
  refine r_iload_n rfl 16 rfl d_Mod_codes_15 ?_
  refine r_iast (w2 := MT X a ν σ τ tx (TSm s.ax s.dg s.op (s.cd + 1) s.vl (upd s.c s.cd (nI t)))) 12 rfl s.cd rfl (by omega) (by omega) rfl 17 rfl d_Mod_codes_16 ?_
  refine r_iconst (nI 1) rfl 18 rfl d_Mod_codes_17 ?_
  exact r_zret rfl (rfl) (Nat.zero_le _) (Nat.zero_le _) d_Mod_codes_18 (by rw [← hQ]; exact ⟨rfl, rfl⟩)
theorem c_Mod_isTest (X : Xn) (a ν : Nat → Nat) (σ : Nat → Nat → Int32) (τ : Nat → Int64) (tx : Nat → Nat) (ht : ν 7 ≤ 100) (hct : ∀ x, tx x < 128) (s : TS) (hax : s.ax ≤ ν 7) (hcd : s.cd + ν 7 ≤ 700 + s.ax) : Does X 7 M_Mod_isTest [.ref (a 0)] (MT X a ν σ τ tx s) 0 0 (fun (vv : Option Value) (ww : va_W) => vv = some (.int (bI (tTest (ν 7) tx s).1)) ∧ ww = MT X a ν σ τ tx ((tTest (ν 7) tx s).2)) := by
  generalize hQ : (fun (vv : Option Value) (ww : va_W) => vv = some (.int (bI (tTest (ν 7) tx s).1)) ∧ ww = MT X a ν σ τ tx ((tTest (ν 7) tx s).2)) = Q
  refine Does.go rfl (Nat.le_of_ble_eq_true rfl) [some (.ref (a 0)), none, none] 2 rfl ?_
  refine r_aload_n rfl 1 rfl d_Mod_isTest_0 ?_
  refine r_getf (v := .int (nI s.ax)) gf_Mod_147 0 rfl rfl 4 rfl d_Mod_isTest_1 ?_
  refine r_aload_n rfl 5 rfl d_Mod_isTest_4 ?_
  refine r_getf (v := .int (nI (ν 7))) gf_Mod_144 0 rfl rfl 8 rfl d_Mod_isTest_5 ?_
  refine r_icmp_geN s.ax (ν 7) (by omega) (by omega) 11 40 rfl rfl d_Mod_isTest_8 (fun h8 => ?_) (fun h8 => ?_)
  · refine r_iconst ((-1)) rfl 41 rfl d_Mod_isTest_40 ?_
    refine r_istore_n (ls2 := [some (.ref (a 0)), some (.int (-1)), none]) 42 rfl d_Mod_isTest_41 (by decide) rfl rfl ?_
    refine r_iload_n rfl 43 rfl d_Mod_isTest_42 ?_
    refine r_if_ge_f 46 rfl 48 rfl d_Mod_isTest_43 (by decide) ?_
    refine r_iconst (nI 0) rfl 47 rfl d_Mod_isTest_46 ?_
    exact r_zret rfl (rfl) (Nat.zero_le _) (Nat.zero_le _) d_Mod_isTest_47 (by rw [← hQ]; exact zR (q := tTest (ν 7) tx s) (b := false) (by unfold tTest; rw [if_neg (by omega)]) rfl)
  · refine r_aload_n rfl 12 rfl d_Mod_isTest_11 ?_
    refine r_getf (v := .ref (a 8)) gf_Mod_27 0 rfl rfl 15 rfl d_Mod_isTest_12 ?_
    refine r_aload_n rfl 16 rfl d_Mod_isTest_15 ?_
    refine r_getf (v := .int (nI s.ax)) gf_Mod_147 0 rfl rfl 19 rfl d_Mod_isTest_16 ?_
    refine r_iald (f := (fun x => nI (tx x))) 6 rfl s.ax rfl (by omega) (by omega) 20 rfl d_Mod_isTest_19 ?_
    refine r_if_leN (tx s.ax) (Nat.lt_trans (hct _) (by decide)) 23 40 rfl rfl d_Mod_isTest_20 (fun h20 => ?_) (fun h20 => ?_)
    · refine r_iconst ((-1)) rfl 41 rfl d_Mod_isTest_40 ?_
      refine r_istore_n (ls2 := [some (.ref (a 0)), some (.int (-1)), none]) 42 rfl d_Mod_isTest_41 (by decide) rfl rfl ?_
      refine r_iload_n rfl 43 rfl d_Mod_isTest_42 ?_
      refine r_if_ge_f 46 rfl 48 rfl d_Mod_isTest_43 (by decide) ?_
      refine r_iconst (nI 0) rfl 47 rfl d_Mod_isTest_46 ?_
      exact r_zret rfl (rfl) (Nat.zero_le _) (Nat.zero_le _) d_Mod_isTest_47 (by rw [← hQ]; exact zR (q := tTest (ν 7) tx s) (b := false) (by unfold tTest; rw [if_pos (by omega), show tx s.ax = 0 from (by omega), ix0.1]) rfl)
    · refine r_ldcS 6 (by decide) rfl rfl 25 rfl d_Mod_isTest_23 ?_
      refine r_aload_n rfl 26 rfl d_Mod_isTest_25 ?_
      refine r_getf (v := .ref (a 8)) gf_Mod_27 0 rfl rfl 29 rfl d_Mod_isTest_26 ?_
      refine r_aload_n rfl 30 rfl d_Mod_isTest_29 ?_
      refine r_getf (v := .int (nI s.ax)) gf_Mod_147 0 rfl rfl 33 rfl d_Mod_isTest_30 ?_
      refine r_iald (f := (fun x => nI (tx x))) 6 rfl s.ax rfl (by omega) (by omega) 34 rfl d_Mod_isTest_33 ?_
      refine r_callVs1 (st2 := [.int (ixS 6 (tx s.ax))]) 6 (by decide) rfl lk_JStr_indexOf_0 ln_Mod_177 (c_JStr_indexOf X 6 (by decide) (tx s.ax) (hct _) (by decide)) (by first | decide | omega) rfl rfl (Nat.le_of_ble_eq_true rfl) (Nat.le_of_ble_eq_true rfl) (Nat.le_of_ble_eq_true rfl) rfl 37 rfl d_Mod_isTest_34 ?_
      rcases ix6 ⟨tx (s.ax), hct _⟩ with ⟨l, l6, ls, li, l0⟩ | ⟨ln, li⟩
      · simp only at ls li l0
        refine r_topi (nI l) li ?_
        refine r_goto 41 rfl d_Mod_isTest_37 ?_
        refine r_istore_n (ls2 := [some (.ref (a 0)), some (.int (nI l)), none]) 42 rfl d_Mod_isTest_41 (by decide) rfl rfl ?_
        refine r_iload_n rfl 43 rfl d_Mod_isTest_42 ?_
        refine r_if_geN_t l (by omega) 48 rfl d_Mod_isTest_43 (Nat.zero_le _) ?_
        refine r_aload_n rfl 49 rfl d_Mod_isTest_48 ?_
        refine r_dup rfl 50 rfl d_Mod_isTest_49 ?_
        refine r_getf (v := .int (nI s.ax)) gf_Mod_147 0 rfl rfl 53 rfl d_Mod_isTest_50 ?_
        refine r_iconst (nI 1) rfl 54 rfl d_Mod_isTest_53 ?_
        refine r_iadd 55 rfl d_Mod_isTest_54 ?_
        refine r_topi (nI (s.ax + 1)) (nI_add _ _) ?_
        refine r_putf (w2 := MT X a ν σ τ tx (TSm (s.ax + 1) s.dg s.op s.cd s.vl s.c)) pf_Mod_147 0 rfl (rfl) rfl (Nat.le_of_ble_eq_true rfl) rfl 58 rfl d_Mod_isTest_55 ?_
        refine r_aload_n rfl 59 rfl d_Mod_isTest_58 ?_
        refine r_getf (v := .int (nI (s.ax + 1))) gf_Mod_147 0 rfl rfl 62 rfl d_Mod_isTest_59 ?_
        refine r_aload_n rfl 63 rfl d_Mod_isTest_62 ?_
        refine r_getf (v := .int (nI (ν 7))) gf_Mod_144 0 rfl rfl 66 rfl d_Mod_isTest_63 ?_
        refine r_icmp_geN (s.ax + 1) (ν 7) (by omega) (by omega) 69 98 rfl rfl d_Mod_isTest_66 (fun h66 => ?_) (fun h66 => ?_)
        · refine r_iconst ((-1)) rfl 99 rfl d_Mod_isTest_98 ?_
          refine r_istore_n (ls2 := [some (.ref (a 0)), some (.int (nI l)), some (.int (-1))]) 100 rfl d_Mod_isTest_99 (by decide) rfl rfl ?_
          refine r_iload_n rfl 101 rfl d_Mod_isTest_100 ?_
          refine r_if_ge_f 104 rfl 106 rfl d_Mod_isTest_101 (by decide) ?_
          refine r_iconst (nI 0) rfl 105 rfl d_Mod_isTest_104 ?_
          exact r_zret rfl (rfl) (Nat.zero_le _) (Nat.zero_le _) d_Mod_isTest_105 (by rw [← hQ]; exact zR (q := tTest (ν 7) tx s) (b := false) (by unfold tTest; rw [if_pos (by omega), ls]; dsimp only; rw [if_neg (by omega)]) rfl)
        · refine r_aload_n rfl 70 rfl d_Mod_isTest_69 ?_
          refine r_getf (v := .ref (a 8)) gf_Mod_27 0 rfl rfl 73 rfl d_Mod_isTest_70 ?_
          refine r_aload_n rfl 74 rfl d_Mod_isTest_73 ?_
          refine r_getf (v := .int (nI (s.ax + 1))) gf_Mod_147 0 rfl rfl 77 rfl d_Mod_isTest_74 ?_
          refine r_iald (f := (fun x => nI (tx x))) 6 rfl (s.ax + 1) rfl (by omega) (by omega) 78 rfl d_Mod_isTest_77 ?_
          refine r_if_leN (tx (s.ax + 1)) (Nat.lt_trans (hct _) (by decide)) 81 98 rfl rfl d_Mod_isTest_78 (fun h78 => ?_) (fun h78 => ?_)
          · refine r_iconst ((-1)) rfl 99 rfl d_Mod_isTest_98 ?_
            refine r_istore_n (ls2 := [some (.ref (a 0)), some (.int (nI l)), some (.int (-1))]) 100 rfl d_Mod_isTest_99 (by decide) rfl rfl ?_
            refine r_iload_n rfl 101 rfl d_Mod_isTest_100 ?_
            refine r_if_ge_f 104 rfl 106 rfl d_Mod_isTest_101 (by decide) ?_
            refine r_iconst (nI 0) rfl 105 rfl d_Mod_isTest_104 ?_
            exact r_zret rfl (rfl) (Nat.zero_le _) (Nat.zero_le _) d_Mod_isTest_105 (by rw [← hQ]; exact zR (q := tTest (ν 7) tx s) (b := false) (by unfold tTest; rw [if_pos (by omega), ls]; dsimp only; rw [if_pos (by omega), show tx (s.ax + 1) = 0 from (by omega), ix0.2]) rfl)
          · refine r_ldcS 7 (by decide) rfl rfl 83 rfl d_Mod_isTest_81 ?_
            refine r_aload_n rfl 84 rfl d_Mod_isTest_83 ?_
            refine r_getf (v := .ref (a 8)) gf_Mod_27 0 rfl rfl 87 rfl d_Mod_isTest_84 ?_
            refine r_aload_n rfl 88 rfl d_Mod_isTest_87 ?_
            refine r_getf (v := .int (nI (s.ax + 1))) gf_Mod_147 0 rfl rfl 91 rfl d_Mod_isTest_88 ?_
            refine r_iald (f := (fun x => nI (tx x))) 6 rfl (s.ax + 1) rfl (by omega) (by omega) 92 rfl d_Mod_isTest_91 ?_
            refine r_callVs1 (st2 := [.int (ixS 7 (tx (s.ax + 1)))]) 7 (by decide) rfl lk_JStr_indexOf_0 ln_Mod_177 (c_JStr_indexOf X 7 (by decide) (tx (s.ax + 1)) (hct _) (by decide)) (by first | decide | omega) rfl rfl (Nat.le_of_ble_eq_true rfl) (Nat.le_of_ble_eq_true rfl) (Nat.le_of_ble_eq_true rfl) rfl 95 rfl d_Mod_isTest_92 ?_
            rcases ix7 ⟨tx (s.ax + 1), hct _⟩ with ⟨g, g6, gs, gi, g0⟩ | ⟨gn, gi⟩
            · simp only at gs gi g0
              refine r_topi (nI g) gi ?_
              refine r_goto 99 rfl d_Mod_isTest_95 ?_
              refine r_istore_n (ls2 := [some (.ref (a 0)), some (.int (nI l)), some (.int (nI g))]) 100 rfl d_Mod_isTest_99 (by decide) rfl rfl ?_
              refine r_iload_n rfl 101 rfl d_Mod_isTest_100 ?_
              refine r_if_geN_t g (by omega) 106 rfl d_Mod_isTest_101 (Nat.zero_le _) ?_
              refine r_aload_n rfl 107 rfl d_Mod_isTest_106 ?_
              refine r_dup rfl 108 rfl d_Mod_isTest_107 ?_
              refine r_getf (v := .int (nI (s.ax + 1))) gf_Mod_147 0 rfl rfl 111 rfl d_Mod_isTest_108 ?_
              refine r_iconst (nI 1) rfl 112 rfl d_Mod_isTest_111 ?_
              refine r_iadd 113 rfl d_Mod_isTest_112 ?_
              refine r_topi (nI ((s.ax + 1) + 1)) (nI_add _ _) ?_
              refine r_putf (w2 := MT X a ν σ τ tx (TSm ((s.ax + 1) + 1) s.dg s.op s.cd s.vl s.c)) pf_Mod_147 0 rfl (rfl) rfl (Nat.le_of_ble_eq_true rfl) rfl 116 rfl d_Mod_isTest_113 ?_
              refine r_aload_n rfl 117 rfl d_Mod_isTest_116 ?_
              refine r_callVA1 (st2 := [.int (bI ((tNum (ν 7) tx (TSm ((s.ax + 1) + 1) s.dg s.op s.cd s.vl s.c)).1))]) (w2 := MT X a ν σ τ tx ((tNum (ν 7) tx (TSm ((s.ax + 1) + 1) s.dg s.op s.cd s.vl s.c)).2)) lk_Mod_isNumber ln_Mod_182 (c_Mod_isNumber X a ν σ τ tx ht hct (TSm ((s.ax + 1) + 1) s.dg s.op s.cd s.vl s.c) (by first | assumption | omega)) (by first | decide | omega) rfl rfl (Nat.le_of_ble_eq_true rfl) (Nat.le_of_ble_eq_true rfl) (Nat.le_of_ble_eq_true rfl) 0 rfl rfl rfl rfl 120 rfl d_Mod_isTest_117 ?_
              refine r_if_eqB 123 151 rfl rfl d_Mod_isTest_120 (fun h120 => ?_) (fun h120 => ?_)
              · refine r_iconst (nI 0) rfl 152 rfl d_Mod_isTest_151 ?_
                exact r_zret rfl (rfl) (Nat.zero_le _) (Nat.zero_le _) d_Mod_isTest_152 (by rw [← hQ]; exact zR (q := tTest (ν 7) tx s) (b := false) (by unfold tTest; rw [if_pos (by omega), ls]; dsimp only; rw [if_pos (by omega), gs]; dsimp only; rw [if_neg (by rw [h120]; decide)]) rfl)
              · have hN := tNum_g (n := ν 7) (tx := tx) (TSm (s.ax + 1 + 1) s.dg s.op s.cd s.vl s.c)
                have hNc : (tNum (ν 7) tx (TSm (s.ax + 1 + 1) s.dg s.op s.cd s.vl s.c)).2.cd = s.cd := hN.2.1
                refine r_aload_n rfl 124 rfl d_Mod_isTest_123 ?_
                refine r_iconst (nI 3) rfl 125 rfl d_Mod_isTest_124 ?_
                refine r_sipush (nI 300) rfl 128 rfl d_Mod_isTest_125 ?_
                refine r_iload_n rfl 129 rfl d_Mod_isTest_128 ?_
                refine r_imul 130 rfl d_Mod_isTest_129 ?_
                refine r_topi (nI (300 * l)) (pk_mul _ _) ?_
                refine r_iadd 131 rfl d_Mod_isTest_130 ?_
                refine r_topi (nI (3 + (300 * l))) (nI_add _ _) ?_
                refine r_bipush (nI 100) rfl 133 rfl d_Mod_isTest_131 ?_
                refine r_iload_n rfl 134 rfl d_Mod_isTest_133 ?_
                refine r_imul 135 rfl d_Mod_isTest_134 ?_
                refine r_topi (nI (100 * g)) (pk_mul _ _) ?_
                refine r_iadd 136 rfl d_Mod_isTest_135 ?_
                refine r_topi (nI ((3 + (300 * l)) + (100 * g))) (nI_add _ _) ?_
                refine r_aload_n rfl 137 rfl d_Mod_isTest_136 ?_
                refine r_getf (v := .int (nI (((tNum (ν 7) tx (TSm ((s.ax + 1) + 1) s.dg s.op s.cd s.vl s.c)).2).vl))) gf_Mod_150 0 rfl rfl 140 rfl d_Mod_isTest_137 ?_
                refine r_iadd 141 rfl d_Mod_isTest_140 ?_
                refine r_topi (nI (((3 + (300 * l)) + (100 * g)) + (((tNum (ν 7) tx (TSm ((s.ax + 1) + 1) s.dg s.op s.cd s.vl s.c)).2).vl))) (nI_add _ _) ?_
                refine r_callVA1 (st2 := [.int (nI 1)]) (w2 := MT X a ν σ τ tx (tCode (((3 + (300 * l)) + (100 * g)) + (((tNum (ν 7) tx (TSm ((s.ax + 1) + 1) s.dg s.op s.cd s.vl s.c)).2).vl)) ((tNum (ν 7) tx (TSm ((s.ax + 1) + 1) s.dg s.op s.cd s.vl s.c)).2))) lk_Mod_codes ln_Mod_185 (c_Mod_codes X a ν σ τ tx ht hct (((3 + (300 * l)) + (100 * g)) + (((tNum (ν 7) tx (TSm ((s.ax + 1) + 1) s.dg s.op s.cd s.vl s.c)).2).vl)) ((tNum (ν 7) tx (TSm ((s.ax + 1) + 1) s.dg s.op s.cd s.vl s.c)).2) (by first | assumption | omega)) (by first | decide | omega) rfl rfl (Nat.le_of_ble_eq_true rfl) (Nat.le_of_ble_eq_true rfl) (Nat.le_of_ble_eq_true rfl) 0 rfl rfl rfl rfl 144 rfl d_Mod_isTest_141 ?_
                refine r_if_eqN_f 1 (by omega) 147 rfl 151 rfl d_Mod_isTest_144 (by decide) ?_
                refine r_iconst (nI 1) rfl 148 rfl d_Mod_isTest_147 ?_
                refine r_goto 152 rfl d_Mod_isTest_148 ?_
                exact r_zret rfl (rfl) (Nat.zero_le _) (Nat.zero_le _) d_Mod_isTest_152 (by rw [← hQ]; exact zR (q := tTest (ν 7) tx s) (b := true) (by unfold tTest; rw [if_pos (by omega), ls]; dsimp only; rw [if_pos (by omega), gs]; dsimp only; rw [if_pos h120]) rfl)
            · simp only at gn gi
              refine r_topi (-1) gi ?_
              refine r_goto 99 rfl d_Mod_isTest_95 ?_
              refine r_istore_n (ls2 := [some (.ref (a 0)), some (.int (nI l)), some (.int (-1))]) 100 rfl d_Mod_isTest_99 (by decide) rfl rfl ?_
              refine r_iload_n rfl 101 rfl d_Mod_isTest_100 ?_
              refine r_if_ge_f 104 rfl 106 rfl d_Mod_isTest_101 (by decide) ?_
              refine r_iconst (nI 0) rfl 105 rfl d_Mod_isTest_104 ?_
              exact r_zret rfl (rfl) (Nat.zero_le _) (Nat.zero_le _) d_Mod_isTest_105 (by rw [← hQ]; exact zR (q := tTest (ν 7) tx s) (b := false) (by unfold tTest; rw [if_pos (by omega), ls]; dsimp only; rw [if_pos (by omega), gn]) rfl)
      · simp only at ln li
        refine r_topi (-1) li ?_
        refine r_goto 41 rfl d_Mod_isTest_37 ?_
        refine r_istore_n (ls2 := [some (.ref (a 0)), some (.int (-1)), none]) 42 rfl d_Mod_isTest_41 (by decide) rfl rfl ?_
        refine r_iload_n rfl 43 rfl d_Mod_isTest_42 ?_
        refine r_if_ge_f 46 rfl 48 rfl d_Mod_isTest_43 (by decide) ?_
        refine r_iconst (nI 0) rfl 47 rfl d_Mod_isTest_46 ?_
        exact r_zret rfl (rfl) (Nat.zero_le _) (Nat.zero_le _) d_Mod_isTest_47 (by rw [← hQ]; exact zR (q := tTest (ν 7) tx s) (b := false) (by unfold tTest; rw [if_pos (by omega), ln]) rfl)
theorem c_Mod_isOpened (X : Xn) (a ν : Nat → Nat) (σ : Nat → Nat → Int32) (τ : Nat → Int64) (tx : Nat → Nat) (ht : ν 7 ≤ 100) (hct : ∀ x, tx x < 128) (c : Nat) (hc : c < 128) (s : TS) (hax : s.ax ≤ ν 7) (hop : s.op ≤ 4) : Does X 2 M_Mod_isOpened [.ref (a 0), .int (nI c)] (MT X a ν σ τ tx s) 0 0 (fun (vv : Option Value) (ww : va_W) => vv = some (.int (bI (tOpen (ν 7) tx c s).1)) ∧ ww = MT X a ν σ τ tx ((tOpen (ν 7) tx c s).2)) := by
  generalize hQ : (fun (vv : Option Value) (ww : va_W) => vv = some (.int (bI (tOpen (ν 7) tx c s).1)) ∧ ww = MT X a ν σ τ tx ((tOpen (ν 7) tx c s).2)) = Q
  refine Does.go rfl (Nat.le_of_ble_eq_true rfl) [some (.ref (a 0)), some (.int (nI c))] 0 rfl ?_
  refine r_aload_n rfl 1 rfl d_Mod_isOpened_0 ?_
  refine r_getf (v := .int (nI s.op)) gf_Mod_188 0 rfl rfl 4 rfl d_Mod_isOpened_1 ?_
  refine r_iconst (nI 4) rfl 5 rfl d_Mod_isOpened_4 ?_
  refine r_icmp_eqN s.op 4 (by omega) (by omega) 8 16 rfl rfl d_Mod_isOpened_5 (fun h5 => ?_) (fun h5 => ?_)
  · refine r_iconst (nI 0) rfl 17 rfl d_Mod_isOpened_16 ?_
    exact r_zret rfl (rfl) (Nat.zero_le _) (Nat.zero_le _) d_Mod_isOpened_17 (by rw [← hQ]; exact zR (q := tOpen (ν 7) tx c s) (b := false) (by unfold tOpen; rw [if_pos h5]) rfl)
  · refine r_aload_n rfl 9 rfl d_Mod_isOpened_8 ?_
    refine r_iload_n rfl 10 rfl d_Mod_isOpened_9 ?_
    refine r_callVA1 (st2 := [.int (bI ((tIs (ν 7) tx c s).1))]) (w2 := MT X a ν σ τ tx ((tIs (ν 7) tx c s).2)) lk_Mod_is ln_Mod_169 (c_Mod_is X a ν σ τ tx ht hct c (by omega) s (by first | assumption | omega)) (by first | decide | omega) rfl rfl (Nat.le_of_ble_eq_true rfl) (Nat.le_of_ble_eq_true rfl) (Nat.le_of_ble_eq_true rfl) 0 rfl rfl rfl rfl 13 rfl d_Mod_isOpened_10 ?_
    refine r_if_neB 16 18 rfl rfl d_Mod_isOpened_13 (fun h13 => ?_) (fun h13 => ?_)
    · refine r_aload_n rfl 19 rfl d_Mod_isOpened_18 ?_
      refine r_dup rfl 20 rfl d_Mod_isOpened_19 ?_
      refine r_getf (v := .int (nI (((tIs (ν 7) tx c s).2).op))) gf_Mod_188 0 rfl rfl 23 rfl d_Mod_isOpened_20 ?_
      refine r_iconst (nI 1) rfl 24 rfl d_Mod_isOpened_23 ?_
      refine r_iadd 25 rfl d_Mod_isOpened_24 ?_
      refine r_topi (nI ((((tIs (ν 7) tx c s).2).op) + 1)) (nI_add _ _) ?_
      refine r_putf (w2 := MT X a ν σ τ tx (TSm (((tIs (ν 7) tx c s).2).ax) (((tIs (ν 7) tx c s).2).dg) ((((tIs (ν 7) tx c s).2).op) + 1) (((tIs (ν 7) tx c s).2).cd) (((tIs (ν 7) tx c s).2).vl) (((tIs (ν 7) tx c s).2).c))) pf_Mod_188 0 rfl (rfl) rfl (Nat.le_of_ble_eq_true rfl) rfl 28 rfl d_Mod_isOpened_25 ?_
      refine r_iconst (nI 1) rfl 29 rfl d_Mod_isOpened_28 ?_
      exact r_zret rfl (rfl) (Nat.zero_le _) (Nat.zero_le _) d_Mod_isOpened_29 (by rw [← hQ]; exact zR (q := tOpen (ν 7) tx c s) (b := true) (by unfold tOpen; rw [if_neg h5, if_pos h13]) rfl)
    · refine r_iconst (nI 0) rfl 17 rfl d_Mod_isOpened_16 ?_
      exact r_zret rfl (rfl) (Nat.zero_le _) (Nat.zero_le _) d_Mod_isOpened_17 (by rw [← hQ]; exact zR (q := tOpen (ν 7) tx c s) (b := false) (by unfold tOpen; rw [if_neg h5, if_neg (by rw [h13]; decide)]) rfl)
