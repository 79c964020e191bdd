def MWf (a ν : Nat → Nat) (σ : Nat → Nat → Int32) : List Value := [.int (nI (ν 0)), .ref (a 1), .ref (a 2), .ref (a 3), .ref (a 4), .ref (a 5), .int (nI (ν 6)), .int (nI (ν 7)), .ref (a 8), .int (nI (ν 9)), .int (σ 10 0), .int (nI (ν 11)), .int (nI (ν 12)), .int (nI (ν 13)), .int (σ 14 0), .ref (a 15), .ref (a 16), .ref (a 17), .ref (a 18), .ref (a 19), .ref (a 20), .int (nI (ν 21)), .ref (a 22), .int (nI (ν 23)), .ref (a 24), .ref (a 25), .ref (a 26), .ref (a 27), .ref (a 28), .int (nI (ν 29)), .ref (a 30), .ref (a 31), .int (nI (ν 32)), .ref (a 33), .ref (a 34), .ref (a 35), .int (nI (ν 36)), .ref (a 37), .int (σ 38 0), .ref (a 39), .ref (a 40), .ref (a 41), .ref (a 42), .ref (a 43), .ref (a 44), .ref (a 45)]
def MW (X : Xn) (a ν : Nat → Nat) (σ : Nat → Nat → Int32) (τ : Nat → Int64) : va_W := [(a 0, .inr (9, MWf a ν σ)), (a 1, .inl (X.2.2.1 0, 6, .inl (σ 1))), (a 2, .inl (X.2.2.1 0, 6, .inl (σ 2))), (a 3, .inl (X.2.2.1 0, 6, .inl (σ 3))), (a 4, .inl (X.2.2.1 0, 24, .inl (σ 4))), (a 5, .inl (X.2.2.1 0, 36, .inl (σ 5))), (a 8, .inl (X.2.2.1 0, 100, .inl (σ 8))), (a 15, .inl (X.2.2.1 0, 6, .inl (σ 15))), (a 16, .inl (X.2.2.1 0, 61, .inl (σ 16))), (a 17, .inl (X.2.2.1 0, 61, .inl (σ 17))), (a 18, .inl (X.2.2.1 0, 61, .inl (σ 18))), (a 19, .inl (X.2.2.1 0, 61, .inl (σ 19))), (a 20, .inl (X.2.2.1 0, 800, .inl (σ 20))), (a 22, .inl (X.2.2.1 2, 110, .inl (σ 22))), (a 24, .inl (X.2.2.1 0, 5, .inl (σ 24))), (a 25, .inl (X.2.2.1 0, 5, .inl (σ 25))), (a 26, .inl (X.2.2.1 0, 5, .inl (σ 26))), (a 27, .inl (X.2.2.1 0, 5, .inl (σ 27))), (a 28, .inl (X.2.2.1 0, 5, .inl (σ 28))), (a 30, .inl (X.2.2.1 0, 10, .inl (σ 30))), (a 31, .inl (X.2.2.1 0, 10, .inl (σ 31))), (a 33, .inl (X.2.2.1 0, 8, .inl (σ 33))), (a 34, .inl (X.2.2.1 0, 8, .inl (σ 34))), (a 35, .inl (X.2.2.1 0, 8, .inl (σ 35))), (a 37, .inl (X.2.2.1 0, 20, .inl (σ 37))), (a 39, .inl (X.2.2.1 0, 156, .inl (σ 39))), (a 40, .inl (X.2.2.1 0, 156, .inl (σ 40))), (a 41, .inl (X.2.2.1 0, 64, .inl (σ 41))), (a 42, .inl (X.2.2.1 2, 3000, .inl (σ 42))), (a 43, .inl (X.2.2.1 0, 6, .inl (σ 43))), (a 44, .inl (X.2.2.1 0, 6, .inl (σ 44))), (a 45, .inl (X.2.2.1 1, 360, .inr (.inl τ)))]
def M_Mod_within : XM := (⟨"HandshakeBindsModel", "within", "(III)Z"⟩, prog_11_method_2_code, 3, (some .boolean))
theorem d_Mod_within_0 : decode M_Mod_within.2.1 0 = .ok (.iload_n 0, 1) := by decide +kernel
theorem d_Mod_within_1 : decode M_Mod_within.2.1 1 = .ok (.iload_n 1, 1) := by decide +kernel
theorem d_Mod_within_2 : decode M_Mod_within.2.1 2 = .ok (.if_icmp .lt 12, 3) := by decide +kernel
theorem d_Mod_within_14 : decode M_Mod_within.2.1 14 = .ok (.iconst 0, 1) := by decide +kernel
theorem d_Mod_within_15 : decode M_Mod_within.2.1 15 = .ok (.ireturn, 1) := by decide +kernel
theorem d_Mod_within_5 : decode M_Mod_within.2.1 5 = .ok (.iload_n 0, 1) := by decide +kernel
theorem d_Mod_within_6 : decode M_Mod_within.2.1 6 = .ok (.iload_n 2, 1) := by decide +kernel
theorem d_Mod_within_7 : decode M_Mod_within.2.1 7 = .ok (.if_icmp .gt 7, 3) := by decide +kernel
theorem d_Mod_within_10 : decode M_Mod_within.2.1 10 = .ok (.iconst 1, 1) := by decide +kernel
theorem d_Mod_within_11 : decode M_Mod_within.2.1 11 = .ok (.goto 4, 3) := by decide +kernel
def M_Mod_isOne : XM := (⟨"HandshakeBindsModel", "isOne", "(I)Z"⟩, prog_11_method_3_code, 2, (some .boolean))
theorem d_Mod_isOne_0 : decode M_Mod_isOne.2.1 0 = .ok (.iload_n 1, 1) := by decide +kernel
theorem d_Mod_isOne_1 : decode M_Mod_isOne.2.1 1 = .ok (.iconst 0, 1) := by decide +kernel
theorem d_Mod_isOne_2 : decode M_Mod_isOne.2.1 2 = .ok (.aload_n 0, 1) := by decide +kernel
theorem d_Mod_isOne_3 : decode M_Mod_isOne.2.1 3 = .ok (.getfield 111, 3) := by decide +kernel
theorem gf_Mod_111 : GF "HandshakeBindsModel" 111 9 0 := ⟨_, _, _, rfl, by decide, i_Mod, inTB 850 (by decide +kernel) rfl⟩
theorem d_Mod_isOne_6 : decode M_Mod_isOne.2.1 6 = .ok (.iconst 1, 1) := by decide +kernel
theorem d_Mod_isOne_7 : decode M_Mod_isOne.2.1 7 = .ok (.isub, 1) := by decide +kernel
theorem d_Mod_isOne_8 : decode M_Mod_isOne.2.1 8 = .ok (.invokestatic 114, 3) := by decide +kernel
theorem ln_Mod_114 : Cond.methodLink "HandshakeBindsModel" 114 M_Mod_within.1 ∈ TB := inTB 994 (by decide +kernel) rfl
theorem lk_Mod_within : LSt M_Mod_within 3 := ⟨⟨inTB 72 (by decide +kernel) rfl, inTB 996 (by decide +kernel) rfl, ⟨by decide, by decide, by decide +kernel⟩, by decide⟩, inTB 995 (by decide +kernel) rfl⟩
theorem d_Mod_isOne_11 : decode M_Mod_isOne.2.1 11 = .ok (.ireturn, 1) := by decide +kernel
def M_Mod_are : XM := (⟨"HandshakeBindsModel", "are", "(II)Z"⟩, prog_11_method_4_code, 3, (some .boolean))
theorem d_Mod_are_0 : decode M_Mod_are.2.1 0 = .ok (.aload_n 0, 1) := by decide +kernel
theorem d_Mod_are_1 : decode M_Mod_are.2.1 1 = .ok (.iload_n 1, 1) := by decide +kernel
theorem d_Mod_are_2 : decode M_Mod_are.2.1 2 = .ok (.invokevirtual 118, 3) := by decide +kernel
theorem ln_Mod_118 : Cond.methodLink "HandshakeBindsModel" 118 M_Mod_isOne.1 ∈ TB := inTB 1001 (by decide +kernel) rfl
theorem lk_Mod_isOne : LVt M_Mod_isOne 1 := ⟨⟨inTB 72 (by decide +kernel) rfl, inTB 1004 (by decide +kernel) rfl, ⟨by decide, by decide, by decide +kernel⟩, by decide⟩, inTB 1003 (by decide +kernel) rfl, inTB 20 (by decide +kernel) rfl⟩
theorem d_Mod_are_5 : decode M_Mod_are.2.1 5 = .ok (.ifCond .eq 15, 3) := by decide +kernel
theorem d_Mod_are_20 : decode M_Mod_are.2.1 20 = .ok (.iconst 0, 1) := by decide +kernel
theorem d_Mod_are_21 : decode M_Mod_are.2.1 21 = .ok (.ireturn, 1) := by decide +kernel
theorem d_Mod_are_8 : decode M_Mod_are.2.1 8 = .ok (.aload_n 0, 1) := by decide +kernel
theorem d_Mod_are_9 : decode M_Mod_are.2.1 9 = .ok (.iload_n 2, 1) := by decide +kernel
theorem d_Mod_are_10 : decode M_Mod_are.2.1 10 = .ok (.invokevirtual 118, 3) := by decide +kernel
theorem d_Mod_are_13 : decode M_Mod_are.2.1 13 = .ok (.ifCond .eq 7, 3) := by decide +kernel
theorem d_Mod_are_16 : decode M_Mod_are.2.1 16 = .ok (.iconst 1, 1) := by decide +kernel
theorem d_Mod_are_17 : decode M_Mod_are.2.1 17 = .ok (.goto 4, 3) := by decide +kernel
def M_Mod_isSqueeze : XM := (⟨"HandshakeBindsModel", "isSqueeze", "(I)Z"⟩, prog_11_method_5_code, 1, (some .boolean))
theorem d_Mod_isSqueeze_0 : decode M_Mod_isSqueeze.2.1 0 = .ok (.iload_n 0, 1) := by decide +kernel
theorem d_Mod_isSqueeze_1 : decode M_Mod_isSqueeze.2.1 1 = .ok (.iconst 0, 1) := by decide +kernel
theorem d_Mod_isSqueeze_2 : decode M_Mod_isSqueeze.2.1 2 = .ok (.bipush 99, 2) := by decide +kernel
theorem d_Mod_isSqueeze_4 : decode M_Mod_isSqueeze.2.1 4 = .ok (.invokestatic 114, 3) := by decide +kernel
theorem d_Mod_isSqueeze_7 : decode M_Mod_isSqueeze.2.1 7 = .ok (.ireturn, 1) := by decide +kernel
def M_Mod_owes : XM := (⟨"HandshakeBindsModel", "owes", "(I)I"⟩, prog_11_method_7_code, 4, (some .int))
theorem d_Mod_owes_0 : decode M_Mod_owes.2.1 0 = .ok (.iconst 0, 1) := by decide +kernel
theorem d_Mod_owes_1 : decode M_Mod_owes.2.1 1 = .ok (.istore_n 2, 1) := by decide +kernel
theorem d_Mod_owes_2 : decode M_Mod_owes.2.1 2 = .ok (.iconst 0, 1) := by decide +kernel
theorem d_Mod_owes_3 : decode M_Mod_owes.2.1 3 = .ok (.istore_n 3, 1) := by decide +kernel
theorem d_Mod_owes_4 : decode M_Mod_owes.2.1 4 = .ok (.iload_n 3, 1) := by decide +kernel
theorem d_Mod_owes_5 : decode M_Mod_owes.2.1 5 = .ok (.aload_n 0, 1) := by decide +kernel
theorem d_Mod_owes_6 : decode M_Mod_owes.2.1 6 = .ok (.getfield 111, 3) := by decide +kernel
theorem d_Mod_owes_9 : decode M_Mod_owes.2.1 9 = .ok (.if_icmp .ge 23, 3) := by decide +kernel
theorem d_Mod_owes_32 : decode M_Mod_owes.2.1 32 = .ok (.iload_n 2, 1) := by decide +kernel
theorem d_Mod_owes_33 : decode M_Mod_owes.2.1 33 = .ok (.ireturn, 1) := by decide +kernel
theorem d_Mod_owes_12 : decode M_Mod_owes.2.1 12 = .ok (.iload_n 2, 1) := by decide +kernel
theorem d_Mod_owes_13 : decode M_Mod_owes.2.1 13 = .ok (.aload_n 0, 1) := by decide +kernel
theorem d_Mod_owes_14 : decode M_Mod_owes.2.1 14 = .ok (.getfield 24, 3) := by decide +kernel
theorem gf_Mod_24 : GF "HandshakeBindsModel" 24 9 5 := ⟨_, _, _, rfl, by decide, i_Mod, inTB 855 (by decide +kernel) rfl⟩
theorem d_Mod_owes_17 : decode M_Mod_owes.2.1 17 = .ok (.bipush 6, 2) := by decide +kernel
theorem d_Mod_owes_19 : decode M_Mod_owes.2.1 19 = .ok (.iload_n 1, 1) := by decide +kernel
theorem d_Mod_owes_20 : decode M_Mod_owes.2.1 20 = .ok (.imul, 1) := by decide +kernel
theorem d_Mod_owes_21 : decode M_Mod_owes.2.1 21 = .ok (.iload_n 3, 1) := by decide +kernel
theorem d_Mod_owes_22 : decode M_Mod_owes.2.1 22 = .ok (.iadd, 1) := by decide +kernel
theorem d_Mod_owes_23 : decode M_Mod_owes.2.1 23 = .ok (.iaload, 1) := by decide +kernel
theorem d_Mod_owes_24 : decode M_Mod_owes.2.1 24 = .ok (.iadd, 1) := by decide +kernel
theorem d_Mod_owes_25 : decode M_Mod_owes.2.1 25 = .ok (.istore_n 2, 1) := by decide +kernel
theorem d_Mod_owes_26 : decode M_Mod_owes.2.1 26 = .ok (.iinc 3 1, 3) := by decide +kernel
theorem d_Mod_owes_29 : decode M_Mod_owes.2.1 29 = .ok (.goto (-25), 3) := by decide +kernel
def M_Mod_owed : XM := (⟨"HandshakeBindsModel", "owed", "(II)I"⟩, prog_11_method_8_code, 5, (some .int))
theorem d_Mod_owed_0 : decode M_Mod_owed.2.1 0 = .ok (.iconst 0, 1) := by decide +kernel
theorem d_Mod_owed_1 : decode M_Mod_owed.2.1 1 = .ok (.istore_n 3, 1) := by decide +kernel
theorem d_Mod_owed_2 : decode M_Mod_owed.2.1 2 = .ok (.iconst 0, 1) := by decide +kernel
theorem d_Mod_owed_3 : decode M_Mod_owed.2.1 3 = .ok (.istore 4, 2) := by decide +kernel
theorem d_Mod_owed_5 : decode M_Mod_owed.2.1 5 = .ok (.iload 4, 2) := by decide +kernel
theorem d_Mod_owed_7 : decode M_Mod_owed.2.1 7 = .ok (.aload_n 0, 1) := by decide +kernel
theorem d_Mod_owed_8 : decode M_Mod_owed.2.1 8 = .ok (.getfield 111, 3) := by decide +kernel
theorem d_Mod_owed_11 : decode M_Mod_owed.2.1 11 = .ok (.if_icmp .ge 33, 3) := by decide +kernel
theorem d_Mod_owed_44 : decode M_Mod_owed.2.1 44 = .ok (.iload_n 3, 1) := by decide +kernel
theorem d_Mod_owed_45 : decode M_Mod_owed.2.1 45 = .ok (.ireturn, 1) := by decide +kernel
theorem d_Mod_owed_14 : decode M_Mod_owed.2.1 14 = .ok (.iload_n 2, 1) := by decide +kernel
theorem d_Mod_owed_15 : decode M_Mod_owed.2.1 15 = .ok (.iload 4, 2) := by decide +kernel
theorem d_Mod_owed_17 : decode M_Mod_owed.2.1 17 = .ok (.ishr, 1) := by decide +kernel
theorem d_Mod_owed_18 : decode M_Mod_owed.2.1 18 = .ok (.iconst 1, 1) := by decide +kernel
theorem d_Mod_owed_19 : decode M_Mod_owed.2.1 19 = .ok (.iand, 1) := by decide +kernel
theorem d_Mod_owed_20 : decode M_Mod_owed.2.1 20 = .ok (.ifCond .ne 18, 3) := by decide +kernel
theorem d_Mod_owed_38 : decode M_Mod_owed.2.1 38 = .ok (.iinc 4 1, 3) := by decide +kernel
theorem d_Mod_owed_41 : decode M_Mod_owed.2.1 41 = .ok (.goto (-36), 3) := by decide +kernel
theorem d_Mod_owed_23 : decode M_Mod_owed.2.1 23 = .ok (.iload_n 3, 1) := by decide +kernel
theorem d_Mod_owed_24 : decode M_Mod_owed.2.1 24 = .ok (.aload_n 0, 1) := by decide +kernel
theorem d_Mod_owed_25 : decode M_Mod_owed.2.1 25 = .ok (.getfield 24, 3) := by decide +kernel
theorem d_Mod_owed_28 : decode M_Mod_owed.2.1 28 = .ok (.bipush 6, 2) := by decide +kernel
theorem d_Mod_owed_30 : decode M_Mod_owed.2.1 30 = .ok (.iload 4, 2) := by decide +kernel
theorem d_Mod_owed_32 : decode M_Mod_owed.2.1 32 = .ok (.imul, 1) := by decide +kernel
theorem d_Mod_owed_33 : decode M_Mod_owed.2.1 33 = .ok (.iload_n 1, 1) := by decide +kernel
theorem d_Mod_owed_34 : decode M_Mod_owed.2.1 34 = .ok (.iadd, 1) := by decide +kernel
theorem d_Mod_owed_35 : decode M_Mod_owed.2.1 35 = .ok (.iaload, 1) := by decide +kernel
theorem d_Mod_owed_36 : decode M_Mod_owed.2.1 36 = .ok (.iadd, 1) := by decide +kernel
theorem d_Mod_owed_37 : decode M_Mod_owed.2.1 37 = .ok (.istore_n 3, 1) := by decide +kernel
def M_Mod_balance : XM := (⟨"HandshakeBindsModel", "balance", "(I)I"⟩, prog_11_method_9_code, 2, (some .int))
theorem d_Mod_balance_0 : decode M_Mod_balance.2.1 0 = .ok (.aload_n 0, 1) := by decide +kernel
theorem d_Mod_balance_1 : decode M_Mod_balance.2.1 1 = .ok (.iload_n 1, 1) := by decide +kernel
theorem d_Mod_balance_2 : decode M_Mod_balance.2.1 2 = .ok (.iconst 0, 1) := by decide +kernel
theorem d_Mod_balance_3 : decode M_Mod_balance.2.1 3 = .ok (.invokevirtual 122, 3) := by decide +kernel
theorem ln_Mod_122 : Cond.methodLink "HandshakeBindsModel" 122 M_Mod_owed.1 ∈ TB := inTB 1010 (by decide +kernel) rfl
theorem lk_Mod_owed : LVt M_Mod_owed 2 := ⟨⟨inTB 72 (by decide +kernel) rfl, inTB 1013 (by decide +kernel) rfl, ⟨by decide, by decide, by decide +kernel⟩, by decide⟩, inTB 1012 (by decide +kernel) rfl, inTB 22 (by decide +kernel) rfl⟩
theorem d_Mod_balance_6 : decode M_Mod_balance.2.1 6 = .ok (.aload_n 0, 1) := by decide +kernel
theorem d_Mod_balance_7 : decode M_Mod_balance.2.1 7 = .ok (.iload_n 1, 1) := by decide +kernel
theorem d_Mod_balance_8 : decode M_Mod_balance.2.1 8 = .ok (.invokevirtual 126, 3) := by decide +kernel
theorem ln_Mod_126 : Cond.methodLink "HandshakeBindsModel" 126 M_Mod_owes.1 ∈ TB := inTB 1006 (by decide +kernel) rfl
theorem lk_Mod_owes : LVt M_Mod_owes 1 := ⟨⟨inTB 72 (by decide +kernel) rfl, inTB 1009 (by decide +kernel) rfl, ⟨by decide, by decide, by decide +kernel⟩, by decide⟩, inTB 1008 (by decide +kernel) rfl, inTB 21 (by decide +kernel) rfl⟩
theorem d_Mod_balance_11 : decode M_Mod_balance.2.1 11 = .ok (.isub, 1) := by decide +kernel
theorem d_Mod_balance_12 : decode M_Mod_balance.2.1 12 = .ok (.ireturn, 1) := by decide +kernel
def M_Mod_fails : XM := (⟨"HandshakeBindsModel", "fails", "(I)I"⟩, prog_11_method_37_code, 5, (some .int))
theorem d_Mod_fails_0 : decode M_Mod_fails.2.1 0 = .ok (.iload_n 1, 1) := by decide +kernel
theorem d_Mod_fails_1 : decode M_Mod_fails.2.1 1 = .ok (.istore_n 2, 1) := by decide +kernel
theorem d_Mod_fails_2 : decode M_Mod_fails.2.1 2 = .ok (.iconst 1, 1) := by decide +kernel
theorem d_Mod_fails_3 : decode M_Mod_fails.2.1 3 = .ok (.istore_n 3, 1) := by decide +kernel
theorem d_Mod_fails_4 : decode M_Mod_fails.2.1 4 = .ok (.iload_n 3, 1) := by decide +kernel
theorem d_Mod_fails_5 : decode M_Mod_fails.2.1 5 = .ok (.ifCond .eq 72, 3) := by decide +kernel
theorem d_Mod_fails_77 : decode M_Mod_fails.2.1 77 = .ok (.iload_n 2, 1) := by decide +kernel
theorem d_Mod_fails_78 : decode M_Mod_fails.2.1 78 = .ok (.ireturn, 1) := by decide +kernel
theorem d_Mod_fails_8 : decode M_Mod_fails.2.1 8 = .ok (.iconst 0, 1) := by decide +kernel
theorem d_Mod_fails_9 : decode M_Mod_fails.2.1 9 = .ok (.istore_n 3, 1) := by decide +kernel
theorem d_Mod_fails_10 : decode M_Mod_fails.2.1 10 = .ok (.iconst 0, 1) := by decide +kernel
theorem d_Mod_fails_11 : decode M_Mod_fails.2.1 11 = .ok (.istore 4, 2) := by decide +kernel
theorem d_Mod_fails_13 : decode M_Mod_fails.2.1 13 = .ok (.iload 4, 2) := by decide +kernel
theorem d_Mod_fails_15 : decode M_Mod_fails.2.1 15 = .ok (.aload_n 0, 1) := by decide +kernel
theorem d_Mod_fails_16 : decode M_Mod_fails.2.1 16 = .ok (.getfield 111, 3) := by decide +kernel
theorem d_Mod_fails_19 : decode M_Mod_fails.2.1 19 = .ok (.if_icmp .ge 55, 3) := by decide +kernel
theorem d_Mod_fails_74 : decode M_Mod_fails.2.1 74 = .ok (.goto (-70), 3) := by decide +kernel
theorem d_Mod_fails_22 : decode M_Mod_fails.2.1 22 = .ok (.iload_n 2, 1) := by decide +kernel
theorem d_Mod_fails_23 : decode M_Mod_fails.2.1 23 = .ok (.iload 4, 2) := by decide +kernel
theorem d_Mod_fails_25 : decode M_Mod_fails.2.1 25 = .ok (.ishr, 1) := by decide +kernel
theorem d_Mod_fails_26 : decode M_Mod_fails.2.1 26 = .ok (.iconst 1, 1) := by decide +kernel
theorem d_Mod_fails_27 : decode M_Mod_fails.2.1 27 = .ok (.iand, 1) := by decide +kernel
theorem d_Mod_fails_28 : decode M_Mod_fails.2.1 28 = .ok (.iconst 1, 1) := by decide +kernel
theorem d_Mod_fails_29 : decode M_Mod_fails.2.1 29 = .ok (.if_icmp .eq 39, 3) := by decide +kernel
theorem d_Mod_fails_68 : decode M_Mod_fails.2.1 68 = .ok (.iinc 4 1, 3) := by decide +kernel
theorem d_Mod_fails_71 : decode M_Mod_fails.2.1 71 = .ok (.goto (-58), 3) := by decide +kernel
theorem d_Mod_fails_32 : decode M_Mod_fails.2.1 32 = .ok (.aload_n 0, 1) := by decide +kernel
theorem d_Mod_fails_33 : decode M_Mod_fails.2.1 33 = .ok (.iload 4, 2) := by decide +kernel
theorem d_Mod_fails_35 : decode M_Mod_fails.2.1 35 = .ok (.invokevirtual 126, 3) := by decide +kernel
theorem d_Mod_fails_38 : decode M_Mod_fails.2.1 38 = .ok (.aload_n 0, 1) := by decide +kernel
theorem d_Mod_fails_39 : decode M_Mod_fails.2.1 39 = .ok (.getfield 18, 3) := by decide +kernel
theorem gf_Mod_18 : GF "HandshakeBindsModel" 18 9 3 := ⟨_, _, _, rfl, by decide, i_Mod, inTB 853 (by decide +kernel) rfl⟩
theorem d_Mod_fails_42 : decode M_Mod_fails.2.1 42 = .ok (.iload 4, 2) := by decide +kernel
theorem d_Mod_fails_44 : decode M_Mod_fails.2.1 44 = .ok (.iaload, 1) := by decide +kernel
theorem d_Mod_fails_45 : decode M_Mod_fails.2.1 45 = .ok (.aload_n 0, 1) := by decide +kernel
theorem d_Mod_fails_46 : decode M_Mod_fails.2.1 46 = .ok (.iload 4, 2) := by decide +kernel
theorem d_Mod_fails_48 : decode M_Mod_fails.2.1 48 = .ok (.iload_n 2, 1) := by decide +kernel
theorem d_Mod_fails_49 : decode M_Mod_fails.2.1 49 = .ok (.invokevirtual 122, 3) := by decide +kernel
theorem d_Mod_fails_52 : decode M_Mod_fails.2.1 52 = .ok (.iadd, 1) := by decide +kernel
theorem d_Mod_fails_53 : decode M_Mod_fails.2.1 53 = .ok (.if_icmp .gt 6, 3) := by decide +kernel
theorem d_Mod_fails_59 : decode M_Mod_fails.2.1 59 = .ok (.iload_n 2, 1) := by decide +kernel
theorem d_Mod_fails_60 : decode M_Mod_fails.2.1 60 = .ok (.iconst 1, 1) := by decide +kernel
theorem d_Mod_fails_61 : decode M_Mod_fails.2.1 61 = .ok (.iload 4, 2) := by decide +kernel
theorem d_Mod_fails_63 : decode M_Mod_fails.2.1 63 = .ok (.ishl, 1) := by decide +kernel
theorem d_Mod_fails_64 : decode M_Mod_fails.2.1 64 = .ok (.ior, 1) := by decide +kernel
theorem d_Mod_fails_65 : decode M_Mod_fails.2.1 65 = .ok (.istore_n 2, 1) := by decide +kernel
theorem d_Mod_fails_66 : decode M_Mod_fails.2.1 66 = .ok (.iconst 1, 1) := by decide +kernel
theorem d_Mod_fails_67 : decode M_Mod_fails.2.1 67 = .ok (.istore_n 3, 1) := by decide +kernel
theorem d_Mod_fails_56 : decode M_Mod_fails.2.1 56 = .ok (.goto 12, 3) := by decide +kernel
def M_Mod_gift : XM := (⟨"HandshakeBindsModel", "gift", "(I)I"⟩, prog_11_method_38_code, 6, (some .int))
theorem d_Mod_gift_0 : decode M_Mod_gift.2.1 0 = .ok (.aload_n 0, 1) := by decide +kernel
theorem d_Mod_gift_1 : decode M_Mod_gift.2.1 1 = .ok (.getfield 18, 3) := by decide +kernel
theorem d_Mod_gift_4 : decode M_Mod_gift.2.1 4 = .ok (.iload_n 1, 1) := by decide +kernel
theorem d_Mod_gift_5 : decode M_Mod_gift.2.1 5 = .ok (.iaload, 1) := by decide +kernel
theorem d_Mod_gift_6 : decode M_Mod_gift.2.1 6 = .ok (.istore_n 2, 1) := by decide +kernel
theorem d_Mod_gift_7 : decode M_Mod_gift.2.1 7 = .ok (.iconst (-1), 1) := by decide +kernel
theorem d_Mod_gift_8 : decode M_Mod_gift.2.1 8 = .ok (.istore_n 3, 1) := by decide +kernel
theorem d_Mod_gift_9 : decode M_Mod_gift.2.1 9 = .ok (.sipush 10000, 3) := by decide +kernel
theorem d_Mod_gift_12 : decode M_Mod_gift.2.1 12 = .ok (.istore 4, 2) := by decide +kernel
theorem d_Mod_gift_14 : decode M_Mod_gift.2.1 14 = .ok (.iload 4, 2) := by decide +kernel
theorem d_Mod_gift_16 : decode M_Mod_gift.2.1 16 = .ok (.iload_n 3, 1) := by decide +kernel
theorem d_Mod_gift_17 : decode M_Mod_gift.2.1 17 = .ok (.isub, 1) := by decide +kernel
theorem d_Mod_gift_18 : decode M_Mod_gift.2.1 18 = .ok (.iconst 1, 1) := by decide +kernel
theorem d_Mod_gift_19 : decode M_Mod_gift.2.1 19 = .ok (.if_icmp .le 47, 3) := by decide +kernel
theorem d_Mod_gift_66 : decode M_Mod_gift.2.1 66 = .ok (.aload_n 0, 1) := by decide +kernel
theorem d_Mod_gift_67 : decode M_Mod_gift.2.1 67 = .ok (.getfield 18, 3) := by decide +kernel
theorem d_Mod_gift_70 : decode M_Mod_gift.2.1 70 = .ok (.iload_n 1, 1) := by decide +kernel
theorem d_Mod_gift_71 : decode M_Mod_gift.2.1 71 = .ok (.iload_n 2, 1) := by decide +kernel
theorem d_Mod_gift_72 : decode M_Mod_gift.2.1 72 = .ok (.iastore, 1) := by decide +kernel
theorem d_Mod_gift_73 : decode M_Mod_gift.2.1 73 = .ok (.iload 4, 2) := by decide +kernel
theorem d_Mod_gift_75 : decode M_Mod_gift.2.1 75 = .ok (.sipush 10000, 3) := by decide +kernel
theorem d_Mod_gift_78 : decode M_Mod_gift.2.1 78 = .ok (.if_icmp .ne 8, 3) := by decide +kernel
theorem d_Mod_gift_86 : decode M_Mod_gift.2.1 86 = .ok (.iload 4, 2) := by decide +kernel
theorem d_Mod_gift_88 : decode M_Mod_gift.2.1 88 = .ok (.ireturn, 1) := by decide +kernel
theorem d_Mod_gift_81 : decode M_Mod_gift.2.1 81 = .ok (.bipush (-5), 2) := by decide +kernel
theorem d_Mod_gift_83 : decode M_Mod_gift.2.1 83 = .ok (.goto 5, 3) := by decide +kernel
theorem d_Mod_gift_22 : decode M_Mod_gift.2.1 22 = .ok (.iload_n 3, 1) := by decide +kernel
theorem d_Mod_gift_23 : decode M_Mod_gift.2.1 23 = .ok (.iload 4, 2) := by decide +kernel
theorem d_Mod_gift_25 : decode M_Mod_gift.2.1 25 = .ok (.iadd, 1) := by decide +kernel
theorem d_Mod_gift_26 : decode M_Mod_gift.2.1 26 = .ok (.iconst 2, 1) := by decide +kernel
theorem d_Mod_gift_27 : decode M_Mod_gift.2.1 27 = .ok (.idiv, 1) := by decide +kernel
theorem d_Mod_gift_28 : decode M_Mod_gift.2.1 28 = .ok (.istore 5, 2) := by decide +kernel
theorem d_Mod_gift_30 : decode M_Mod_gift.2.1 30 = .ok (.aload_n 0, 1) := by decide +kernel
theorem d_Mod_gift_31 : decode M_Mod_gift.2.1 31 = .ok (.getfield 18, 3) := by decide +kernel
theorem d_Mod_gift_34 : decode M_Mod_gift.2.1 34 = .ok (.iload_n 1, 1) := by decide +kernel
theorem d_Mod_gift_35 : decode M_Mod_gift.2.1 35 = .ok (.iload_n 2, 1) := by decide +kernel
theorem d_Mod_gift_36 : decode M_Mod_gift.2.1 36 = .ok (.iload 5, 2) := by decide +kernel
theorem d_Mod_gift_38 : decode M_Mod_gift.2.1 38 = .ok (.iadd, 1) := by decide +kernel
theorem d_Mod_gift_39 : decode M_Mod_gift.2.1 39 = .ok (.iastore, 1) := by decide +kernel
theorem d_Mod_gift_40 : decode M_Mod_gift.2.1 40 = .ok (.aload_n 0, 1) := by decide +kernel
theorem d_Mod_gift_41 : decode M_Mod_gift.2.1 41 = .ok (.iconst 0, 1) := by decide +kernel
theorem d_Mod_gift_42 : decode M_Mod_gift.2.1 42 = .ok (.invokevirtual 134, 3) := by decide +kernel
theorem ln_Mod_134 : Cond.methodLink "HandshakeBindsModel" 134 M_Mod_fails.1 ∈ TB := inTB 1018 (by decide +kernel) rfl
theorem lk_Mod_fails : LVt M_Mod_fails 1 := ⟨⟨inTB 72 (by decide +kernel) rfl, inTB 1021 (by decide +kernel) rfl, ⟨by decide, by decide, by decide +kernel⟩, by decide⟩, inTB 1020 (by decide +kernel) rfl, inTB 24 (by decide +kernel) rfl⟩
theorem d_Mod_gift_45 : decode M_Mod_gift.2.1 45 = .ok (.iload_n 1, 1) := by decide +kernel
theorem d_Mod_gift_46 : decode M_Mod_gift.2.1 46 = .ok (.ishr, 1) := by decide +kernel
theorem d_Mod_gift_47 : decode M_Mod_gift.2.1 47 = .ok (.iconst 1, 1) := by decide +kernel
theorem d_Mod_gift_48 : decode M_Mod_gift.2.1 48 = .ok (.iand, 1) := by decide +kernel
theorem d_Mod_gift_49 : decode M_Mod_gift.2.1 49 = .ok (.iconst 1, 1) := by decide +kernel
theorem d_Mod_gift_50 : decode M_Mod_gift.2.1 50 = .ok (.if_icmp .ne 9, 3) := by decide +kernel
theorem d_Mod_gift_59 : decode M_Mod_gift.2.1 59 = .ok (.iload 5, 2) := by decide +kernel
theorem d_Mod_gift_61 : decode M_Mod_gift.2.1 61 = .ok (.istore 4, 2) := by decide +kernel
theorem d_Mod_gift_63 : decode M_Mod_gift.2.1 63 = .ok (.goto (-49), 3) := by decide +kernel
theorem d_Mod_gift_53 : decode M_Mod_gift.2.1 53 = .ok (.iload 5, 2) := by decide +kernel
theorem d_Mod_gift_55 : decode M_Mod_gift.2.1 55 = .ok (.istore_n 3, 1) := by decide +kernel
theorem d_Mod_gift_56 : decode M_Mod_gift.2.1 56 = .ok (.goto 7, 3) := by decide +kernel
theorem c_Mod_within (X : Xn) (v lo hi : Int32) : Does X 1 M_Mod_within [.int v, .int lo, .int hi] ([]) 0 0 (fun (vv : Option Value) (ww : va_W) => vv = some (.int (bI (inR v lo hi))) ∧ ww = []) := by
  generalize hQ : (fun (vv : Option Value) (ww : va_W) => vv = some (.int (bI (inR v lo hi))) ∧ ww = []) = Q
  refine Does.go rfl (Nat.le_of_ble_eq_true rfl) [some (.int v), some (.int lo), some (.int hi)] 0 rfl ?_
  refine r_iload_n rfl 1 rfl d_Mod_within_0 ?_
  refine r_iload_n rfl 2 rfl d_Mod_within_1 ?_
  refine r_icmp_lt 5 14 rfl rfl d_Mod_within_2 (fun h2 => ?_) (fun h2 => ?_)
  · refine r_iconst (nI 0) rfl 15 rfl d_Mod_within_14 ?_
    exact r_zret rfl (rfl) (Nat.zero_le _) (Nat.zero_le _) d_Mod_within_15 (by rw [← hQ]; exact ⟨by rw [inR_lt h2]; rfl, rfl⟩)
  · refine r_iload_n rfl 6 rfl d_Mod_within_5 ?_
    refine r_iload_n rfl 7 rfl d_Mod_within_6 ?_
    refine r_icmp_gt 10 14 rfl rfl d_Mod_within_7 (fun h7 => ?_) (fun h7 => ?_)
    · refine r_iconst (nI 0) rfl 15 rfl d_Mod_within_14 ?_
      exact r_zret rfl (rfl) (Nat.zero_le _) (Nat.zero_le _) d_Mod_within_15 (by rw [← hQ]; exact ⟨by rw [inR_gt h7]; rfl, rfl⟩)
    · refine r_iconst (nI 1) rfl 11 rfl d_Mod_within_10 ?_
      refine r_goto 15 rfl d_Mod_within_11 ?_
      exact r_zret rfl (rfl) (Nat.zero_le _) (Nat.zero_le _) d_Mod_within_15 (by rw [← hQ]; exact ⟨by rw [inR_in h2 h7]; rfl, rfl⟩)
theorem c_Mod_isOne (X : Xn) (a ν : Nat → Nat) (σ : Nat → Nat → Int32) (τ : Nat → Int64) (p : Int32) : Does X 2 M_Mod_isOne [.ref (a 0), .int p] (MW X a ν σ τ) 0 0 (fun (vv : Option Value) (ww : va_W) => vv = some (.int (bI (isB (ν 0) p))) ∧ ww = MW X a ν σ τ) := by
  generalize hQ : (fun (vv : Option Value) (ww : va_W) => vv = some (.int (bI (isB (ν 0) p))) ∧ ww = MW X a ν σ τ) = Q
  refine Does.go rfl (Nat.le_of_ble_eq_true rfl) [some (.ref (a 0)), some (.int p)] 0 rfl ?_
  refine r_iload_n rfl 1 rfl d_Mod_isOne_0 ?_
  refine r_iconst (nI 0) rfl 2 rfl d_Mod_isOne_1 ?_
  refine r_aload_n rfl 3 rfl d_Mod_isOne_2 ?_
  refine r_getf (v := .int (nI (ν 0))) gf_Mod_111 0 rfl rfl 6 rfl d_Mod_isOne_3 ?_
  refine r_iconst (nI 1) rfl 7 rfl d_Mod_isOne_6 ?_
  refine r_isub 8 rfl d_Mod_isOne_7 ?_
  refine r_callS1 (st2 := [.int (bI (inR p (nI 0) ((nI (ν 0)) - (nI 1))))]) (w2 := MW X a ν σ τ) lk_Mod_within ln_Mod_114 (c_Mod_within X p (nI 0) ((nI (ν 0)) - (nI 1))) (by decide) rfl rfl (Nat.le_of_ble_eq_true rfl) (Nat.le_of_ble_eq_true rfl) (Nat.le_of_ble_eq_true rfl) [] rfl rfl rfl rfl rfl 11 rfl d_Mod_isOne_8 ?_
  exact r_zret rfl (bI_nar _) (Nat.zero_le _) (Nat.zero_le _) d_Mod_isOne_11 (by rw [← hQ]; exact ⟨rfl, rfl⟩)
theorem c_Mod_are (X : Xn) (a ν : Nat → Nat) (σ : Nat → Nat → Int32) (τ : Nat → Int64) (p q : Int32) : Does X 3 M_Mod_are [.ref (a 0), .int p, .int q] (MW X a ν σ τ) 0 0 (fun (vv : Option Value) (ww : va_W) => vv = some (.int (bI (isB (ν 0) p && isB (ν 0) q))) ∧ ww = MW X a ν σ τ) := by
  generalize hQ : (fun (vv : Option Value) (ww : va_W) => vv = some (.int (bI (isB (ν 0) p && isB (ν 0) q))) ∧ ww = MW X a ν σ τ) = Q
  refine Does.go rfl (Nat.le_of_ble_eq_true rfl) [some (.ref (a 0)), some (.int p), some (.int q)] 0 rfl ?_
  refine r_aload_n rfl 1 rfl d_Mod_are_0 ?_
  refine r_iload_n rfl 2 rfl d_Mod_are_1 ?_
  refine r_callVA1 (st2 := [.int (bI (isB (ν 0) p))]) (w2 := MW X a ν σ τ) lk_Mod_isOne ln_Mod_118 (c_Mod_isOne X a ν σ τ p) (by decide) rfl rfl (Nat.le_of_ble_eq_true rfl) (Nat.le_of_ble_eq_true rfl) (Nat.le_of_ble_eq_true rfl) 0 rfl rfl rfl rfl 5 rfl d_Mod_are_2 ?_
  refine r_if_eqB 8 20 rfl rfl d_Mod_are_5 (fun h5 => ?_) (fun h5 => ?_)
  · refine r_iconst (nI 0) rfl 21 rfl d_Mod_are_20 ?_
    exact r_zret rfl (rfl) (Nat.zero_le _) (Nat.zero_le _) d_Mod_are_21 (by rw [← hQ]; exact ⟨by simp [bI, nI_0, nI_one, h5], rfl⟩)
  · refine r_aload_n rfl 9 rfl d_Mod_are_8 ?_
    refine r_iload_n rfl 10 rfl d_Mod_are_9 ?_
    refine r_callVA1 (st2 := [.int (bI (isB (ν 0) q))]) (w2 := MW X a ν σ τ) lk_Mod_isOne ln_Mod_118 (c_Mod_isOne X a ν σ τ q) (by decide) rfl rfl (Nat.le_of_ble_eq_true rfl) (Nat.le_of_ble_eq_true rfl) (Nat.le_of_ble_eq_true rfl) 0 rfl rfl rfl rfl 13 rfl d_Mod_are_10 ?_
    refine r_if_eqB 16 20 rfl rfl d_Mod_are_13 (fun h13 => ?_) (fun h13 => ?_)
    · refine r_iconst (nI 0) rfl 21 rfl d_Mod_are_20 ?_
      exact r_zret rfl (rfl) (Nat.zero_le _) (Nat.zero_le _) d_Mod_are_21 (by rw [← hQ]; exact ⟨by simp [bI, nI_0, nI_one, h5, h13], rfl⟩)
    · refine r_iconst (nI 1) rfl 17 rfl d_Mod_are_16 ?_
      refine r_goto 21 rfl d_Mod_are_17 ?_
      exact r_zret rfl (rfl) (Nat.zero_le _) (Nat.zero_le _) d_Mod_are_21 (by rw [← hQ]; exact ⟨by simp [bI, nI_0, nI_one, h5, h13], rfl⟩)
theorem c_Mod_isSqueeze (X : Xn) (s : Int32) : Does X 2 M_Mod_isSqueeze [.int s] ([]) 0 0 (fun (vv : Option Value) (ww : va_W) => vv = some (.int (bI (inR s (nI 0) (nI 99)))) ∧ ww = []) := by
  generalize hQ : (fun (vv : Option Value) (ww : va_W) => vv = some (.int (bI (inR s (nI 0) (nI 99)))) ∧ ww = []) = Q
  refine Does.go rfl (Nat.le_of_ble_eq_true rfl) [some (.int s)] 0 rfl ?_
  refine r_iload_n rfl 1 rfl d_Mod_isSqueeze_0 ?_
  refine r_iconst (nI 0) rfl 2 rfl d_Mod_isSqueeze_1 ?_
  refine r_bipush (nI 99) rfl 4 rfl d_Mod_isSqueeze_2 ?_
  refine r_callS1 (st2 := [.int (bI (inR s (nI 0) (nI 99)))]) (w2 := []) lk_Mod_within ln_Mod_114 (c_Mod_within X s (nI 0) (nI 99)) (by decide) rfl rfl (Nat.le_of_ble_eq_true rfl) (Nat.le_of_ble_eq_true rfl) (Nat.le_of_ble_eq_true rfl) [] rfl rfl rfl rfl rfl 7 rfl d_Mod_isSqueeze_4 ?_
  exact r_zret rfl (bI_nar _) (Nat.zero_le _) (Nat.zero_le _) d_Mod_isSqueeze_7 (by rw [← hQ]; exact ⟨rfl, rfl⟩)
theorem c_Mod_owes (X : Xn) (a ν : Nat → Nat) (σ : Nat → Nat → Int32) (τ : Nat → Int64) (hn6 : ν 0 ≤ 6) (p : Nat) (hp : p < 6) : Does X 1 M_Mod_owes [.ref (a 0), .int (nI p)] (MW X a ν σ τ) 0 0 (fun (vv : Option Value) (ww : va_W) => vv = some (.int (osum (σ 5) p (ν 0))) ∧ ww = MW X a ν σ τ) := by
  generalize hQ : (fun (vv : Option Value) (ww : va_W) => vv = some (.int (osum (σ 5) p (ν 0))) ∧ ww = MW X a ν σ τ) = Q
  refine Does.go rfl (Nat.le_of_ble_eq_true rfl) [some (.ref (a 0)), some (.int (nI p)), none, none] 2 rfl ?_
  refine r_iconst (nI 0) rfl 1 rfl d_Mod_owes_0 ?_
  refine r_istore_n (ls2 := [some (.ref (a 0)), some (.int (nI p)), some (.int (nI 0)), none]) 2 rfl d_Mod_owes_1 (by decide) rfl rfl ?_
  refine r_iconst (nI 0) rfl 3 rfl d_Mod_owes_2 ?_
  refine r_istore_n (ls2 := [some (.ref (a 0)), some (.int (nI p)), some (.int (nI 0)), some (.int (nI 0))]) 4 rfl d_Mod_owes_3 (by decide) rfl rfl ?_
  have L4_1 : ∀ (f : Nat) (k : Nat), (k ≤ ν 0) → ν 0 - k < f → Runs X 1 M_Mod_owes 0 0 Q 4 [some (.ref (a 0)), some (.int (nI p)), some (.int (osum (σ 5) p k)), some (.int (nI k))] [] 0 0 (MW X a ν σ τ) := by
    intro f
    induction f with
    | zero => intro k hk hmu; exact absurd hmu (Nat.not_lt_zero _)
    | succ f ih2 =>
      intro k hk hmu
      refine r_iload_n rfl 5 rfl d_Mod_owes_4 ?_
      refine r_aload_n rfl 6 rfl d_Mod_owes_5 ?_
      refine r_getf (v := .int (nI (ν 0))) gf_Mod_111 0 rfl rfl 9 rfl d_Mod_owes_6 ?_
      refine r_icmp_geN k (ν 0) (by omega) (by omega) 12 32 rfl rfl d_Mod_owes_9 (fun h9 => ?_) (fun h9 => ?_)
      · refine r_iload_n rfl 33 rfl d_Mod_owes_32 ?_
        exact r_iret rfl (Nat.zero_le _) (Nat.zero_le _) d_Mod_owes_33 (by rw [← hQ]; exact ⟨by rw [show k = ν 0 by omega], rfl⟩)
      · refine r_iload_n rfl 13 rfl d_Mod_owes_12 ?_
        refine r_aload_n rfl 14 rfl d_Mod_owes_13 ?_
        refine r_getf (v := .ref (a 5)) gf_Mod_24 0 rfl rfl 17 rfl d_Mod_owes_14 ?_
        refine r_bipush (nI 6) rfl 19 rfl d_Mod_owes_17 ?_
        refine r_iload_n rfl 20 rfl d_Mod_owes_19 ?_
        refine r_imul 21 rfl d_Mod_owes_20 ?_
        refine r_topi (nI (6 * p)) (pk_mul _ _) ?_
        refine r_iload_n rfl 22 rfl d_Mod_owes_21 ?_
        refine r_iadd 23 rfl d_Mod_owes_22 ?_
        refine r_topi (nI ((6 * p) + k)) (nI_add _ _) ?_
        refine r_iald 5 rfl ((6 * p) + k) rfl (by omega) (by omega) 24 rfl d_Mod_owes_23 ?_
        refine r_iadd 25 rfl d_Mod_owes_24 ?_
        refine r_istore_n (ls2 := [some (.ref (a 0)), some (.int (nI p)), some (.int ((osum (σ 5) p k) + (σ 5 ((6 * p) + k)))), some (.int (nI k))]) 26 rfl d_Mod_owes_25 (by decide) rfl rfl ?_
        refine r_iinc (ls2 := [some (.ref (a 0)), some (.int (nI p)), some (.int ((osum (σ 5) p k) + (σ 5 ((6 * p) + k)))), some (.int (nI (k + 1)))]) (nI (k + 1)) rfl (nI_1 _) 29 rfl d_Mod_owes_26 (by decide) rfl rfl ?_
        refine r_goto 4 rfl d_Mod_owes_29 ?_
        exact ih2 (k + 1) (by omega) (by omega)
  exact L4_1 _ 0 (by omega) (Nat.lt_succ_self _)
theorem c_Mod_owed (X : Xn) (a ν : Nat → Nat) (σ : Nat → Nat → Int32) (τ : Nat → Int64) (hn6 : ν 0 ≤ 6) (p S : Nat) (hp : p < 6) (hS : S < 64) : Does X 1 M_Mod_owed [.ref (a 0), .int (nI p), .int (nI S)] (MW X a ν σ τ) 0 0 (fun (vv : Option Value) (ww : va_W) => vv = some (.int (dsum (σ 5) S p (ν 0))) ∧ ww = MW X a ν σ τ) := by
  generalize hQ : (fun (vv : Option Value) (ww : va_W) => vv = some (.int (dsum (σ 5) S p (ν 0))) ∧ ww = MW X a ν σ τ) = Q
  refine Does.go rfl (Nat.le_of_ble_eq_true rfl) [some (.ref (a 0)), some (.int (nI p)), some (.int (nI S)), none, none] 2 rfl ?_
  refine r_iconst (nI 0) rfl 1 rfl d_Mod_owed_0 ?_
  refine r_istore_n (ls2 := [some (.ref (a 0)), some (.int (nI p)), some (.int (nI S)), some (.int (nI 0)), none]) 2 rfl d_Mod_owed_1 (by decide) rfl rfl ?_
  refine r_iconst (nI 0) rfl 3 rfl d_Mod_owed_2 ?_
  refine r_istore (ls2 := [some (.ref (a 0)), some (.int (nI p)), some (.int (nI S)), some (.int (nI 0)), some (.int (nI 0))]) 5 rfl d_Mod_owed_3 (by decide) rfl rfl ?_
  have L5_1 : ∀ (f : Nat) (k : Nat), (k ≤ ν 0) → ν 0 - k < f → Runs X 1 M_Mod_owed 0 0 Q 5 [some (.ref (a 0)), some (.int (nI p)), some (.int (nI S)), some (.int (dsum (σ 5) S p k)), some (.int (nI k))] [] 0 0 (MW X a ν σ τ) := by
    intro f
    induction f with
    | zero => intro k hk hmu; exact absurd hmu (Nat.not_lt_zero _)
    | succ f ih2 =>
      intro k hk hmu
      refine r_iload rfl 7 rfl d_Mod_owed_5 ?_
      refine r_aload_n rfl 8 rfl d_Mod_owed_7 ?_
      refine r_getf (v := .int (nI (ν 0))) gf_Mod_111 0 rfl rfl 11 rfl d_Mod_owed_8 ?_
      refine r_icmp_geN k (ν 0) (by omega) (by omega) 14 44 rfl rfl d_Mod_owed_11 (fun h11 => ?_) (fun h11 => ?_)
      · refine r_iload_n rfl 45 rfl d_Mod_owed_44 ?_
        exact r_iret rfl (Nat.zero_le _) (Nat.zero_le _) d_Mod_owed_45 (by rw [← hQ]; exact ⟨by rw [show k = ν 0 by omega], rfl⟩)
      · refine r_iload_n rfl 15 rfl d_Mod_owed_14 ?_
        refine r_iload rfl 17 rfl d_Mod_owed_15 ?_
        refine r_ishr 18 rfl d_Mod_owed_17 ?_
        refine r_topi (nI (S >>> k)) (nI_shr (by omega) (by omega)) ?_
        refine r_iconst (nI 1) rfl 19 rfl d_Mod_owed_18 ?_
        refine r_iand 20 rfl d_Mod_owed_19 ?_
        refine r_topi (nI ((S >>> k) &&& 1)) (nx_and _ _) ?_
        refine r_if_neN ((S >>> k) &&& 1) (b_lt31 _) 23 38 rfl rfl d_Mod_owed_20 (fun h20 => ?_) (fun h20 => ?_)
        · refine r_iinc (ls2 := [some (.ref (a 0)), some (.int (nI p)), some (.int (nI S)), some (.int (dsum (σ 5) S p k)), some (.int (nI (k + 1)))]) (nI (k + 1)) rfl (nI_1 _) 41 rfl d_Mod_owed_38 (by decide) rfl rfl ?_
          refine r_goto 5 rfl d_Mod_owed_41 ?_
          refine Runs.cast (ih2 (k + 1) (by omega) (by omega)) (by first | (rw [dsum, if_pos h20]; done) | (rw [dsum, if_neg h20]; done)) rfl (rfl)
        · refine r_iload_n rfl 24 rfl d_Mod_owed_23 ?_
          refine r_aload_n rfl 25 rfl d_Mod_owed_24 ?_
          refine r_getf (v := .ref (a 5)) gf_Mod_24 0 rfl rfl 28 rfl d_Mod_owed_25 ?_
          refine r_bipush (nI 6) rfl 30 rfl d_Mod_owed_28 ?_
          refine r_iload rfl 32 rfl d_Mod_owed_30 ?_
          refine r_imul 33 rfl d_Mod_owed_32 ?_
          refine r_topi (nI (6 * k)) (pk_mul _ _) ?_
          refine r_iload_n rfl 34 rfl d_Mod_owed_33 ?_
          refine r_iadd 35 rfl d_Mod_owed_34 ?_
          refine r_topi (nI ((6 * k) + p)) (nI_add _ _) ?_
          refine r_iald 5 rfl ((6 * k) + p) rfl (by omega) (by omega) 36 rfl d_Mod_owed_35 ?_
          refine r_iadd 37 rfl d_Mod_owed_36 ?_
          refine r_istore_n (ls2 := [some (.ref (a 0)), some (.int (nI p)), some (.int (nI S)), some (.int ((dsum (σ 5) S p k) + (σ 5 ((6 * k) + p)))), some (.int (nI k))]) 38 rfl d_Mod_owed_37 (by decide) rfl rfl ?_
          refine r_iinc (ls2 := [some (.ref (a 0)), some (.int (nI p)), some (.int (nI S)), some (.int ((dsum (σ 5) S p k) + (σ 5 ((6 * k) + p)))), some (.int (nI (k + 1)))]) (nI (k + 1)) rfl (nI_1 _) 41 rfl d_Mod_owed_38 (by decide) rfl rfl ?_
          refine r_goto 5 rfl d_Mod_owed_41 ?_
          refine Runs.cast (ih2 (k + 1) (by omega) (by omega)) (by first | (rw [dsum, if_pos h20]; done) | (rw [dsum, if_neg h20]; done)) rfl (rfl)
  exact L5_1 _ 0 (by omega) (Nat.lt_succ_self _)
theorem c_Mod_balance (X : Xn) (a ν : Nat → Nat) (σ : Nat → Nat → Int32) (τ : Nat → Int64) (hn6 : ν 0 ≤ 6) (p : Nat) (hp : p < 6) : Does X 2 M_Mod_balance [.ref (a 0), .int (nI p)] (MW X a ν σ τ) 0 0 (fun (vv : Option Value) (ww : va_W) => vv = some (.int (bal (ν 0) (σ 5) p)) ∧ ww = MW X a ν σ τ) := by
  generalize hQ : (fun (vv : Option Value) (ww : va_W) => vv = some (.int (bal (ν 0) (σ 5) p)) ∧ ww = MW X a ν σ τ) = Q
  refine Does.go rfl (Nat.le_of_ble_eq_true rfl) [some (.ref (a 0)), some (.int (nI p))] 0 rfl ?_
  refine r_aload_n rfl 1 rfl d_Mod_balance_0 ?_
  refine r_iload_n rfl 2 rfl d_Mod_balance_1 ?_
  refine r_iconst (nI 0) rfl 3 rfl d_Mod_balance_2 ?_
  refine r_callVA1 (st2 := [.int (dsum (σ 5) 0 p (ν 0))]) (w2 := MW X a ν σ τ) lk_Mod_owed ln_Mod_122 (c_Mod_owed X a ν σ τ (by first | omega | exact hn6) p 0 (by omega) (by first | omega | assumption)) (by decide) rfl rfl (Nat.le_of_ble_eq_true rfl) (Nat.le_of_ble_eq_true rfl) (Nat.le_of_ble_eq_true rfl) 0 rfl rfl rfl rfl 6 rfl d_Mod_balance_3 ?_
  refine r_aload_n rfl 7 rfl d_Mod_balance_6 ?_
  refine r_iload_n rfl 8 rfl d_Mod_balance_7 ?_
  refine r_callVA1 (st2 := [.int (osum (σ 5) p (ν 0)), .int (dsum (σ 5) 0 p (ν 0))]) (w2 := MW X a ν σ τ) lk_Mod_owes ln_Mod_126 (c_Mod_owes X a ν σ τ (by first | omega | exact hn6) p (by omega)) (by decide) rfl rfl (Nat.le_of_ble_eq_true rfl) (Nat.le_of_ble_eq_true rfl) (Nat.le_of_ble_eq_true rfl) 0 rfl rfl rfl rfl 11 rfl d_Mod_balance_8 ?_
  refine r_isub 12 rfl d_Mod_balance_11 ?_
  exact r_iret rfl (Nat.zero_le _) (Nat.zero_le _) d_Mod_balance_12 (by rw [← hQ]; exact ⟨rfl, rfl⟩)
theorem c_Mod_fails (X : Xn) (a ν : Nat → Nat) (σ : Nat → Nat → Int32) (τ : Nat → Int64) (hn6 : ν 0 ≤ 6) (S0 : Nat) (hS0 : S0 < 64) : Does X 2 M_Mod_fails [.ref (a 0), .int (nI S0)] (MW X a ν σ τ) 0 0 (fun (vv : Option Value) (ww : va_W) => vv = some (.int (nI (fails (ν 0) (σ 3) (σ 5) S0))) ∧ ww = MW X a ν σ τ) := by
  generalize hQ : (fun (vv : Option Value) (ww : va_W) => vv = some (.int (nI (fails (ν 0) (σ 3) (σ 5) S0))) ∧ ww = MW X a ν σ τ) = Q
  refine Does.go rfl (Nat.le_of_ble_eq_true rfl) [some (.ref (a 0)), some (.int (nI S0)), none, none, none] 3 rfl ?_
  refine r_iload_n rfl 1 rfl d_Mod_fails_0 ?_
  refine r_istore_n (ls2 := [some (.ref (a 0)), some (.int (nI S0)), some (.int (nI S0)), none, none]) 2 rfl d_Mod_fails_1 (by decide) rfl rfl ?_
  refine r_iconst (nI 1) rfl 3 rfl d_Mod_fails_2 ?_
  refine r_istore_n (ls2 := [some (.ref (a 0)), some (.int (nI S0)), some (.int (nI S0)), some (.int (nI 1)), none]) 4 rfl d_Mod_fails_3 (by decide) rfl rfl ?_
  have L4_1 : ∀ (f : Nat) (S : Nat) (b : Bool) (m : Nat), (S < 64) → (fails (ν 0) (σ 3) (σ 5) S0 = (if b = true then fl (ν 0) (σ 3) (σ 5) m S else S)) → (b = true → cz S < m) → m < f → Runs X 2 M_Mod_fails 0 0 Q 4 [some (.ref (a 0)), some (.int (nI S0)), some (.int (nI S)), some (.int (bI b)), none] [] 0 0 (MW X a ν σ τ) := by
    intro f
    induction f with
    | zero => intro S b m hS hi hz hmu; exact absurd hmu (Nat.not_lt_zero _)
    | succ f ih2 =>
      intro S b m hS hi hz hmu
      refine r_iload_n rfl 5 rfl d_Mod_fails_4 ?_
      refine r_if_eqB 8 77 rfl rfl d_Mod_fails_5 (fun h5 => ?_) (fun h5 => ?_)
      · refine r_iload_n rfl 78 rfl d_Mod_fails_77 ?_
        exact r_iret rfl (Nat.zero_le _) (Nat.zero_le _) d_Mod_fails_78 (by rw [← hQ]; exact ⟨by rw [hi, h5]; rfl, rfl⟩)
      · subst h5
        obtain ⟨m, rfl⟩ : ∃ m2, m = m2 + 1 := ⟨m - 1, by have := hz rfl; omega⟩
        refine r_iconst (nI 0) rfl 9 rfl d_Mod_fails_8 ?_
        refine r_istore_n (ls2 := [some (.ref (a 0)), some (.int (nI S0)), some (.int (nI S)), some (.int (nI 0)), none]) 10 rfl d_Mod_fails_9 (by decide) rfl rfl ?_
        refine r_iconst (nI 0) rfl 11 rfl d_Mod_fails_10 ?_
        refine r_istore (ls2 := [some (.ref (a 0)), some (.int (nI S0)), some (.int (nI S)), some (.int (nI 0)), some (.int (nI 0))]) 13 rfl d_Mod_fails_11 (by decide) rfl rfl ?_
        have L13_3 : ∀ (f : Nat) (k : Nat), (k ≤ ν 0) → ν 0 - k < f → Runs X 2 M_Mod_fails 0 0 Q 13 [some (.ref (a 0)), some (.int (nI S0)), some (.int (nI (fr (ν 0) (σ 3) (σ 5) S k))), some (.int (bI (fm (ν 0) (σ 3) (σ 5) S k))), some (.int (nI k))] [] 0 0 (MW X a ν σ τ) := by
          intro f
          induction f with
          | zero => intro k hk hmu; exact absurd hmu (Nat.not_lt_zero _)
          | succ f ih4 =>
            intro k hk hmu
            refine r_iload rfl 15 rfl d_Mod_fails_13 ?_
            refine r_aload_n rfl 16 rfl d_Mod_fails_15 ?_
            refine r_getf (v := .int (nI (ν 0))) gf_Mod_111 0 rfl rfl 19 rfl d_Mod_fails_16 ?_
            refine r_icmp_geN k (ν 0) (by omega) (by omega) 22 74 rfl rfl d_Mod_fails_19 (fun h19 => ?_) (fun h19 => ?_)
            · refine r_goto 4 rfl d_Mod_fails_74 ?_
              refine r_forget (ls2 := [some (.ref (a 0)), some (.int (nI S0)), some (.int (nI (fr (ν 0) (σ 3) (σ 5) S k))), some (.int (bI (fm (ν 0) (σ 3) (σ 5) S k))), none]) 4 rfl ?_
              refine Runs.cast (ih2 (fr (ν 0) (σ 3) (σ 5) S (ν 0)) (fm (ν 0) (σ 3) (σ 5) S (ν 0)) m (fr_lt hS hn6) (by rw [hi]; simp only [fl, if_true]) (fun hb => Nat.lt_of_lt_of_le ((fr_props hS _ hn6).2.2 hb) (Nat.le_of_lt_succ (hz rfl))) (by omega)) (by rw [show k = ν 0 by omega]) rfl (rfl)
            · refine r_iload_n rfl 23 rfl d_Mod_fails_22 ?_
              refine r_iload rfl 25 rfl d_Mod_fails_23 ?_
              refine r_ishr 26 rfl d_Mod_fails_25 ?_
              refine r_topi (nI ((fr (ν 0) (σ 3) (σ 5) S k) >>> k)) (nI_shr (Nat.lt_trans (fr_lt hS (by omega)) (by decide)) (by omega)) ?_
              refine r_iconst (nI 1) rfl 27 rfl d_Mod_fails_26 ?_
              refine r_iand 28 rfl d_Mod_fails_27 ?_
              refine r_topi (nI (((fr (ν 0) (σ 3) (σ 5) S k) >>> k) &&& 1)) (nx_and _ _) ?_
              refine r_iconst (nI 1) rfl 29 rfl d_Mod_fails_28 ?_
              refine r_icmp_eqN (((fr (ν 0) (σ 3) (σ 5) S k) >>> k) &&& 1) 1 (b_lt31 _) (by omega) 32 68 rfl rfl d_Mod_fails_29 (fun h29 => ?_) (fun h29 => ?_)
              · refine r_iinc (ls2 := [some (.ref (a 0)), some (.int (nI S0)), some (.int (nI (fr (ν 0) (σ 3) (σ 5) S k))), some (.int (bI (fm (ν 0) (σ 3) (σ 5) S k))), some (.int (nI (k + 1)))]) (nI (k + 1)) rfl (nI_1 _) 71 rfl d_Mod_fails_68 (by decide) rfl rfl ?_
                refine r_goto 13 rfl d_Mod_fails_71 ?_
                refine Runs.cast (ih4 (k + 1) (by omega) (by omega)) (by rw [fr, fm, if_neg (fun z => absurd (z.1.symm.trans h29) (by decide)), if_neg (fun z => absurd (z.1.symm.trans h29) (by decide))]) rfl (rfl)
              · have hb29 := b0 h29
                refine r_aload_n rfl 33 rfl d_Mod_fails_32 ?_
                refine r_iload rfl 35 rfl d_Mod_fails_33 ?_
                refine r_callVA1 (st2 := [.int (osum (σ 5) k (ν 0))]) (w2 := MW X a ν σ τ) lk_Mod_owes ln_Mod_126 (c_Mod_owes X a ν σ τ (by first | omega | exact hn6) k (by omega)) (by decide) rfl rfl (Nat.le_of_ble_eq_true rfl) (Nat.le_of_ble_eq_true rfl) (Nat.le_of_ble_eq_true rfl) 0 rfl rfl rfl rfl 38 rfl d_Mod_fails_35 ?_
                refine r_aload_n rfl 39 rfl d_Mod_fails_38 ?_
                refine r_getf (v := .ref (a 3)) gf_Mod_18 0 rfl rfl 42 rfl d_Mod_fails_39 ?_
                refine r_iload rfl 44 rfl d_Mod_fails_42 ?_
                refine r_iald 3 rfl k rfl (by omega) (by omega) 45 rfl d_Mod_fails_44 ?_
                refine r_aload_n rfl 46 rfl d_Mod_fails_45 ?_
                refine r_iload rfl 48 rfl d_Mod_fails_46 ?_
                refine r_iload_n rfl 49 rfl d_Mod_fails_48 ?_
                have hfr := fr_lt (n := ν 0) (pu := σ 3) (de := σ 5) (k := k) hS (by omega)
                refine r_callVA1 (st2 := [.int (dsum (σ 5) (fr (ν 0) (σ 3) (σ 5) S k) k (ν 0)), .int (σ 3 k), .int (osum (σ 5) k (ν 0))]) (w2 := MW X a ν σ τ) lk_Mod_owed ln_Mod_122 (c_Mod_owed X a ν σ τ (by first | omega | exact hn6) k (fr (ν 0) (σ 3) (σ 5) S k) (by omega) (by first | omega | assumption)) (by decide) rfl rfl (Nat.le_of_ble_eq_true rfl) (Nat.le_of_ble_eq_true rfl) (Nat.le_of_ble_eq_true rfl) 0 rfl rfl rfl rfl 52 rfl d_Mod_fails_49 ?_
                refine r_iadd 53 rfl d_Mod_fails_52 ?_
                refine r_icmp_gt 56 59 rfl rfl d_Mod_fails_53 (fun h53 => ?_) (fun h53 => ?_)
                · have h53 : cant (ν 0) (σ 3) (σ 5) (fr (ν 0) (σ 3) (σ 5) S k) k = true := by simp [cant]; exact h53
                  refine r_iload_n rfl 60 rfl d_Mod_fails_59 ?_
                  refine r_iconst (nI 1) rfl 61 rfl d_Mod_fails_60 ?_
                  refine r_iload rfl 63 rfl d_Mod_fails_61 ?_
                  refine r_ishl 64 rfl d_Mod_fails_63 ?_
                  refine r_topi (nI (1 <<< k)) (nI_shl (by omega) (one_shl (by omega))) ?_
                  refine r_ior 65 rfl d_Mod_fails_64 ?_
                  refine r_topi (nI ((fr (ν 0) (σ 3) (σ 5) S k) ||| (1 <<< k))) (nx_or _ _) ?_
                  refine r_istore_n (ls2 := [some (.ref (a 0)), some (.int (nI S0)), some (.int (nI ((fr (ν 0) (σ 3) (σ 5) S k) ||| (1 <<< k)))), some (.int (bI (fm (ν 0) (σ 3) (σ 5) S k))), some (.int (nI k))]) 66 rfl d_Mod_fails_65 (by decide) rfl rfl ?_
                  refine r_iconst (nI 1) rfl 67 rfl d_Mod_fails_66 ?_
                  refine r_istore_n (ls2 := [some (.ref (a 0)), some (.int (nI S0)), some (.int (nI ((fr (ν 0) (σ 3) (σ 5) S k) ||| (1 <<< k)))), some (.int (nI 1)), some (.int (nI k))]) 68 rfl d_Mod_fails_67 (by decide) rfl rfl ?_
                  refine r_iinc (ls2 := [some (.ref (a 0)), some (.int (nI S0)), some (.int (nI ((fr (ν 0) (σ 3) (σ 5) S k) ||| (1 <<< k)))), some (.int (nI 1)), some (.int (nI (k + 1)))]) (nI (k + 1)) rfl (nI_1 _) 71 rfl d_Mod_fails_68 (by decide) rfl rfl ?_
                  refine r_goto 13 rfl d_Mod_fails_71 ?_
                  refine Runs.cast (ih4 (k + 1) (by omega) (by omega)) (by rw [fr, fm, if_pos ⟨hb29, h53⟩, if_pos ⟨hb29, h53⟩]; try rfl) rfl (rfl)
                · have h53 : cant (ν 0) (σ 3) (σ 5) (fr (ν 0) (σ 3) (σ 5) S k) k = false := by simp [cant]; exact Int32.not_lt.mp h53
                  refine r_goto 68 rfl d_Mod_fails_56 ?_
                  refine r_iinc (ls2 := [some (.ref (a 0)), some (.int (nI S0)), some (.int (nI (fr (ν 0) (σ 3) (σ 5) S k))), some (.int (bI (fm (ν 0) (σ 3) (σ 5) S k))), some (.int (nI (k + 1)))]) (nI (k + 1)) rfl (nI_1 _) 71 rfl d_Mod_fails_68 (by decide) rfl rfl ?_
                  refine r_goto 13 rfl d_Mod_fails_71 ?_
                  refine Runs.cast (ih4 (k + 1) (by omega) (by omega)) (by rw [fr, fm, if_neg (fun z => absurd z.2 (by rw [h53]; decide)), if_neg (fun z => absurd z.2 (by rw [h53]; decide))]) rfl (rfl)
        exact L13_3 _ 0 (by omega) (Nat.lt_succ_self _)
  exact L4_1 _ S0 true 7 (hS0) (rfl) (fun _ => Nat.lt_of_le_of_lt (cz_le S0) (by decide)) (Nat.lt_succ_self _)
theorem c_Mod_gift (X : Xn) (a ν : Nat → Nat) (σ : Nat → Nat → Int32) (τ : Nat → Int64) (hn6 : ν 0 ≤ 6) (p : Nat) (hp : p < 6) : Does X 3 M_Mod_gift [.ref (a 0), .int (nI p)] (MW X a ν σ τ) 0 0 (fun (vv : Option Value) (ww : va_W) => ∃ r : Int32, giftP (ν 0) (σ 3) (σ 5) p r ∧ vv = some (.int r) ∧ ww = MW X a ν σ τ) := by
  generalize hQ : (fun (vv : Option Value) (ww : va_W) => ∃ r : Int32, giftP (ν 0) (σ 3) (σ 5) p r ∧ vv = some (.int r) ∧ ww = MW X a ν σ τ) = Q
  refine Does.go rfl (Nat.le_of_ble_eq_true rfl) [some (.ref (a 0)), some (.int (nI p)), none, none, none, none] 4 rfl ?_
  refine r_aload_n rfl 1 rfl d_Mod_gift_0 ?_
  refine r_getf (v := .ref (a 3)) gf_Mod_18 0 rfl rfl 4 rfl d_Mod_gift_1 ?_
  refine r_iload_n rfl 5 rfl d_Mod_gift_4 ?_
  refine r_iald 3 rfl p rfl (by omega) (by omega) 6 rfl d_Mod_gift_5 ?_
  refine r_istore_n (ls2 := [some (.ref (a 0)), some (.int (nI p)), some (.int (σ 3 p)), none, none, none]) 7 rfl d_Mod_gift_6 (by decide) rfl rfl ?_
  refine r_iconst ((-1)) rfl 8 rfl d_Mod_gift_7 ?_
  refine r_istore_n (ls2 := [some (.ref (a 0)), some (.int (nI p)), some (.int (σ 3 p)), some (.int (-1)), none, none]) 9 rfl d_Mod_gift_8 (by decide) rfl rfl ?_
  refine r_sipush (nI 10000) rfl 12 rfl d_Mod_gift_9 ?_
  refine r_istore (ls2 := [some (.ref (a 0)), some (.int (nI p)), some (.int (σ 3 p)), some (.int (-1)), some (.int (nI 10000)), none]) 14 rfl d_Mod_gift_12 (by decide) rfl rfl ?_
  have L14_1 : ∀ (f : Nat) (L : Nat) (H : Nat) (g : Int32), (L ≤ H) → (H ≤ 10000) → (L = 0 ∨ gbad (ν 0) (σ 3) (σ 5) p (L - 1) = true) → (H = 10000 ∨ gbad (ν 0) (σ 3) (σ 5) p H = false) → H - L < f → Runs X 3 M_Mod_gift 0 0 Q 14 [some (.ref (a 0)), some (.int (nI p)), some (.int (σ 3 p)), some (.int (nI L - 1)), some (.int (nI H)), none] [] 0 0 (MW X a ν (u2 σ 3 (upd (σ 3) p (g))) τ) := by
    intro f
    induction f with
    | zero => intro L H g h1 h2 h3 h4 hmu; exact absurd hmu (Nat.not_lt_zero _)
    | succ f ih2 =>
      intro L H g h1 h2 h3 h4 hmu
      refine r_iload rfl 16 rfl d_Mod_gift_14 ?_
      refine r_iload_n rfl 17 rfl d_Mod_gift_16 ?_
      refine r_isub 18 rfl d_Mod_gift_17 ?_
      refine r_iconst (nI 1) rfl 19 rfl d_Mod_gift_18 ?_
      refine r_icmp_le 22 66 rfl rfl d_Mod_gift_19 (fun h19 => ?_) (fun h19 => ?_)
      · have hle : H ≤ L := (gift_c h1 h2).mp h19
        refine r_aload_n rfl 67 rfl d_Mod_gift_66 ?_
        refine r_getf (v := .ref (a 3)) gf_Mod_18 0 rfl rfl 70 rfl d_Mod_gift_67 ?_
        refine r_iload_n rfl 71 rfl d_Mod_gift_70 ?_
        refine r_iload_n rfl 72 rfl d_Mod_gift_71 ?_
        refine r_iast (w2 := MW X a ν (u2 (u2 σ 3 (upd (σ 3) p (g))) 3 (upd (upd (σ 3) p (g)) p (σ 3 p))) τ) 3 rfl p rfl (by omega) (by omega) rfl 73 rfl d_Mod_gift_72 ?_
        refine r_iload rfl 75 rfl d_Mod_gift_73 ?_
        refine r_sipush (nI 10000) rfl 78 rfl d_Mod_gift_75 ?_
        refine r_icmp_neN H 10000 (by omega) (by omega) 81 86 rfl rfl d_Mod_gift_78 (fun h78 => ?_) (fun h78 => ?_)
        · refine r_iload rfl 88 rfl d_Mod_gift_86 ?_
          exact r_iret rfl (Nat.zero_le _) (Nat.zero_le _) d_Mod_gift_88 (by rw [← hQ]; exact ⟨_, Or.inr ⟨H, by omega, rfl, h4.resolve_left h78, (by rcases h3 with h3 | h3; exact Or.inl (by omega); exact Or.inr (by rw [show H - 1 = L - 1 by omega]; exact h3))⟩, rfl, by rw [u2_u2, upd_upd, upd_self, u2_self]⟩)
        · refine r_bipush ((-5)) rfl 83 rfl d_Mod_gift_81 ?_
          refine r_goto 88 rfl d_Mod_gift_83 ?_
          exact r_iret rfl (Nat.zero_le _) (Nat.zero_le _) d_Mod_gift_88 (by rw [← hQ]; exact ⟨_, Or.inl ⟨rfl, (by rcases h3 with h3 | h3; omega; rw [show (9999 : Nat) = L - 1 by omega]; exact h3)⟩, rfl, by rw [u2_u2, upd_upd, upd_self, u2_self]⟩)
      · have hlt : L < H := Nat.not_le.mp (fun z => h19 ((gift_c h1 h2).mpr z))
        refine r_iload_n rfl 23 rfl d_Mod_gift_22 ?_
        refine r_iload rfl 25 rfl d_Mod_gift_23 ?_
        refine r_iadd 26 rfl d_Mod_gift_25 ?_
        refine r_iconst (nI 2) rfl 27 rfl d_Mod_gift_26 ?_
        refine r_idiv (by decide) 28 rfl d_Mod_gift_27 ?_
        refine r_topi (nI ((L + H - 1) / 2)) (gift_m hlt h2) ?_
        refine r_istore (ls2 := [some (.ref (a 0)), some (.int (nI p)), some (.int (σ 3 p)), some (.int (nI L - 1)), some (.int (nI H)), some (.int (nI ((L + H - 1) / 2)))]) 30 rfl d_Mod_gift_28 (by decide) rfl rfl ?_
        refine r_aload_n rfl 31 rfl d_Mod_gift_30 ?_
        refine r_getf (v := .ref (a 3)) gf_Mod_18 0 rfl rfl 34 rfl d_Mod_gift_31 ?_
        refine r_iload_n rfl 35 rfl d_Mod_gift_34 ?_
        refine r_iload_n rfl 36 rfl d_Mod_gift_35 ?_
        refine r_iload rfl 38 rfl d_Mod_gift_36 ?_
        refine r_iadd 39 rfl d_Mod_gift_38 ?_
        refine r_iast (w2 := MW X a ν (u2 (u2 σ 3 (upd (σ 3) p (g))) 3 (upd (upd (σ 3) p (g)) p ((σ 3 p) + (nI ((L + H - 1) / 2))))) τ) 3 rfl p rfl (by omega) (by omega) rfl 40 rfl d_Mod_gift_39 ?_
        refine Runs.cast (w' := MW X a ν (u2 σ 3 (upd (σ 3) p (σ 3 p + nI ((L + H - 1) / 2)))) τ) ?_ rfl rfl (by rw [upd_upd, u2_u2])
        refine r_aload_n rfl 41 rfl d_Mod_gift_40 ?_
        refine r_iconst (nI 0) rfl 42 rfl d_Mod_gift_41 ?_
        refine r_callVA1 (st2 := [.int (nI (fails (ν 0) (upd (σ 3) p (σ 3 p + nI ((L + H - 1) / 2))) (σ 5) 0))]) (w2 := MW X a ν (u2 σ 3 (upd (σ 3) p (σ 3 p + nI ((L + H - 1) / 2)))) τ) lk_Mod_fails ln_Mod_134 (c_Mod_fails X a ν (u2 σ 3 (upd (σ 3) p (σ 3 p + nI ((L + H - 1) / 2)))) τ hn6 0 (by first | omega | assumption)) (by decide) rfl rfl (Nat.le_of_ble_eq_true rfl) (Nat.le_of_ble_eq_true rfl) (Nat.le_of_ble_eq_true rfl) 0 rfl rfl rfl rfl 45 rfl d_Mod_gift_42 ?_
        have hfl : fails (ν 0) (upd (σ 3) p (σ 3 p + nI ((L + H - 1) / 2))) (σ 5) 0 < 64 := fails_lt hn6 (by decide)
        refine r_iload_n rfl 46 rfl d_Mod_gift_45 ?_
        refine r_ishr 47 rfl d_Mod_gift_46 ?_
        refine r_topi (nI ((fails (ν 0) (upd (σ 3) p (σ 3 p + nI ((L + H - 1) / 2))) (σ 5) 0) >>> p)) (nI_shr (Nat.lt_trans hfl (by decide)) (by omega)) ?_
        refine r_iconst (nI 1) rfl 48 rfl d_Mod_gift_47 ?_
        refine r_iand 49 rfl d_Mod_gift_48 ?_
        refine r_topi (nI (((fails (ν 0) (upd (σ 3) p (σ 3 p + nI ((L + H - 1) / 2))) (σ 5) 0) >>> p) &&& 1)) (nx_and _ _) ?_
        refine r_iconst (nI 1) rfl 50 rfl d_Mod_gift_49 ?_
        refine r_icmp_neN (((fails (ν 0) (upd (σ 3) p (σ 3 p + nI ((L + H - 1) / 2))) (σ 5) 0) >>> p) &&& 1) 1 (b_lt31 _) (by omega) 53 59 rfl rfl d_Mod_gift_50 (fun h50 => ?_) (fun h50 => ?_)
        · have hg : gbad (ν 0) (σ 3) (σ 5) p ((L + H - 1) / 2) = false := by simp only [gbad, decide_eq_false_iff_not]; exact h50
          refine r_iload rfl 61 rfl d_Mod_gift_59 ?_
          refine r_istore (ls2 := [some (.ref (a 0)), some (.int (nI p)), some (.int (σ 3 p)), some (.int (nI L - 1)), some (.int (nI ((L + H - 1) / 2))), some (.int (nI ((L + H - 1) / 2)))]) 63 rfl d_Mod_gift_61 (by decide) rfl rfl ?_
          refine r_goto 14 rfl d_Mod_gift_63 ?_
          refine r_forget (ls2 := [some (.ref (a 0)), some (.int (nI p)), some (.int (σ 3 p)), some (.int (nI L - 1)), some (.int (nI ((L + H - 1) / 2))), none]) 5 rfl ?_
          refine Runs.cast (ih2 L ((L + H - 1) / 2) (σ 3 p + nI ((L + H - 1) / 2)) (by omega) (by omega) (h3) (Or.inr hg) (by omega)) (rfl) rfl (rfl)
        · have hg : gbad (ν 0) (σ 3) (σ 5) p ((L + H - 1) / 2) = true := by simp only [gbad, decide_eq_true_eq]; exact h50
          refine r_iload rfl 55 rfl d_Mod_gift_53 ?_
          refine r_istore_n (ls2 := [some (.ref (a 0)), some (.int (nI p)), some (.int (σ 3 p)), some (.int (nI ((L + H - 1) / 2))), some (.int (nI H)), some (.int (nI ((L + H - 1) / 2)))]) 56 rfl d_Mod_gift_55 (by decide) rfl rfl ?_
          refine r_goto 63 rfl d_Mod_gift_56 ?_
          refine r_goto 14 rfl d_Mod_gift_63 ?_
          refine r_forget (ls2 := [some (.ref (a 0)), some (.int (nI p)), some (.int (σ 3 p)), some (.int (nI ((L + H - 1) / 2))), some (.int (nI H)), none]) 5 rfl ?_
          refine Runs.cast (ih2 ((L + H - 1) / 2 + 1) H (σ 3 p + nI ((L + H - 1) / 2)) (by omega) (h2) (Or.inr (by rw [Nat.add_sub_cancel]; exact hg)) (h4) (by omega)) (by rw [gift_e]) rfl (rfl)
  refine Runs.cast (L14_1 _ 0 10000 (σ 3 p) (Nat.zero_le _) (Nat.le_refl _) (Or.inl rfl) (Or.inl rfl) (Nat.lt_succ_self _)) (by rfl) rfl (by rw [upd_self, u2_self])
