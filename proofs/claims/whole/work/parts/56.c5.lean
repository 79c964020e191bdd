def M_HB_isTrader : XM := (⟨"HandshakeBinds", "isTrader", "(I)Z"⟩, prog_1_method_35_code, 2, (some .boolean))
theorem d_HB_isTrader_0 : decode M_HB_isTrader.2.1 0 = .ok (.iload_n 1, 1) := by decide +kernel
theorem d_HB_isTrader_1 : decode M_HB_isTrader.2.1 1 = .ok (.ifCond .lt 21, 3) := by decide +kernel
theorem d_HB_isTrader_22 : decode M_HB_isTrader.2.1 22 = .ok (.iconst 0, 1) := by decide +kernel
theorem d_HB_isTrader_23 : decode M_HB_isTrader.2.1 23 = .ok (.ireturn, 1) := by decide +kernel
theorem d_HB_isTrader_4 : decode M_HB_isTrader.2.1 4 = .ok (.iload_n 1, 1) := by decide +kernel
theorem d_HB_isTrader_5 : decode M_HB_isTrader.2.1 5 = .ok (.aload_n 0, 1) := by decide +kernel
theorem d_HB_isTrader_6 : decode M_HB_isTrader.2.1 6 = .ok (.getfield 12, 3) := by decide +kernel
theorem gf_HB_12 : GF "HandshakeBinds" 12 0 0 := ⟨_, _, _, rfl, by decide, i_HB, inTB 317 (by decide +kernel) rfl⟩
theorem d_HB_isTrader_9 : decode M_HB_isTrader.2.1 9 = .ok (.getfield 49, 3) := by decide +kernel
theorem gf_HB_49 : GFn "HandshakeBinds" 49 1 0 := ⟨_, _, _, rfl, by decide, i_Mkt, inNW 168 (by decide +kernel) rfl⟩
theorem d_HB_isTrader_12 : decode M_HB_isTrader.2.1 12 = .ok (.getfield 52, 3) := by decide +kernel
theorem gf_HB_52 : GFn "HandshakeBinds" 52 2 3 := ⟨_, _, _, rfl, by decide, i_Led, inNW 104 (by decide +kernel) rfl⟩
theorem d_HB_isTrader_15 : decode M_HB_isTrader.2.1 15 = .ok (.if_icmp .ge 7, 3) := by decide +kernel
theorem d_HB_isTrader_18 : decode M_HB_isTrader.2.1 18 = .ok (.iconst 1, 1) := by decide +kernel
theorem d_HB_isTrader_19 : decode M_HB_isTrader.2.1 19 = .ok (.goto 4, 3) := by decide +kernel
def M_HB_refusedPair : XM := (⟨"HandshakeBinds", "refusedPair", "(II)I"⟩, prog_1_method_36_code, 3, (some .int))
theorem d_HB_refusedPair_0 : decode M_HB_refusedPair.2.1 0 = .ok (.aload_n 0, 1) := by decide +kernel
theorem d_HB_refusedPair_1 : decode M_HB_refusedPair.2.1 1 = .ok (.iload_n 1, 1) := by decide +kernel
theorem d_HB_refusedPair_2 : decode M_HB_refusedPair.2.1 2 = .ok (.invokevirtual 60, 3) := by decide +kernel
theorem ln_HB_60 : Cond.methodLink "HandshakeBinds" 60 M_HB_isTrader.1 ∈ TB := inTB 359 (by decide +kernel) rfl
theorem lk_HB_isTrader : LVt M_HB_isTrader 1 := ⟨⟨inTB 62 (by decide +kernel) rfl, inTB 362 (by decide +kernel) rfl, ⟨by decide, by decide, by decide +kernel⟩, by decide⟩, inTB 361 (by decide +kernel) rfl, inTB 0 (by decide +kernel) rfl⟩
theorem d_HB_refusedPair_5 : decode M_HB_refusedPair.2.1 5 = .ok (.ifCond .eq 11, 3) := by decide +kernel
theorem d_HB_refusedPair_16 : decode M_HB_refusedPair.2.1 16 = .ok (.iconst (-1), 1) := by decide +kernel
theorem d_HB_refusedPair_17 : decode M_HB_refusedPair.2.1 17 = .ok (.ireturn, 1) := by decide +kernel
theorem d_HB_refusedPair_8 : decode M_HB_refusedPair.2.1 8 = .ok (.aload_n 0, 1) := by decide +kernel
theorem d_HB_refusedPair_9 : decode M_HB_refusedPair.2.1 9 = .ok (.iload_n 2, 1) := by decide +kernel
theorem d_HB_refusedPair_10 : decode M_HB_refusedPair.2.1 10 = .ok (.invokevirtual 60, 3) := by decide +kernel
theorem d_HB_refusedPair_13 : decode M_HB_refusedPair.2.1 13 = .ok (.ifCond .ne 5, 3) := by decide +kernel
theorem d_HB_refusedPair_18 : decode M_HB_refusedPair.2.1 18 = .ok (.iload_n 1, 1) := by decide +kernel
theorem d_HB_refusedPair_19 : decode M_HB_refusedPair.2.1 19 = .ok (.iload_n 2, 1) := by decide +kernel
theorem d_HB_refusedPair_20 : decode M_HB_refusedPair.2.1 20 = .ok (.if_icmp .ne 8, 3) := by decide +kernel
theorem d_HB_refusedPair_28 : decode M_HB_refusedPair.2.1 28 = .ok (.iconst 0, 1) := by decide +kernel
theorem d_HB_refusedPair_29 : decode M_HB_refusedPair.2.1 29 = .ok (.ireturn, 1) := by decide +kernel
theorem d_HB_refusedPair_23 : decode M_HB_refusedPair.2.1 23 = .ok (.bipush (-2), 2) := by decide +kernel
theorem d_HB_refusedPair_25 : decode M_HB_refusedPair.2.1 25 = .ok (.goto 4, 3) := by decide +kernel
def M_HB_owe : XM := (⟨"HandshakeBinds", "owe", "(III)I"⟩, prog_1_method_4_code, 6, (some .int))
theorem d_HB_owe_0 : decode M_HB_owe.2.1 0 = .ok (.aload_n 0, 1) := by decide +kernel
theorem d_HB_owe_1 : decode M_HB_owe.2.1 1 = .ok (.iload_n 1, 1) := by decide +kernel
theorem d_HB_owe_2 : decode M_HB_owe.2.1 2 = .ok (.iload_n 2, 1) := by decide +kernel
theorem d_HB_owe_3 : decode M_HB_owe.2.1 3 = .ok (.invokevirtual 95, 3) := by decide +kernel
theorem ln_HB_95 : Cond.methodLink "HandshakeBinds" 95 M_HB_refusedPair.1 ∈ TB := inTB 408 (by decide +kernel) rfl
theorem lk_HB_refusedPair : LVt M_HB_refusedPair 2 := ⟨⟨inTB 62 (by decide +kernel) rfl, inTB 411 (by decide +kernel) rfl, ⟨by decide, by decide, by decide +kernel⟩, by decide⟩, inTB 410 (by decide +kernel) rfl, inTB 2 (by decide +kernel) rfl⟩
theorem d_HB_owe_6 : decode M_HB_owe.2.1 6 = .ok (.istore 4, 2) := by decide +kernel
theorem d_HB_owe_8 : decode M_HB_owe.2.1 8 = .ok (.iload 4, 2) := by decide +kernel
theorem d_HB_owe_10 : decode M_HB_owe.2.1 10 = .ok (.ifCond .eq 6, 3) := by decide +kernel
theorem d_HB_owe_16 : decode M_HB_owe.2.1 16 = .ok (.iload_n 3, 1) := by decide +kernel
theorem d_HB_owe_17 : decode M_HB_owe.2.1 17 = .ok (.ifCond .lt 10, 3) := by decide +kernel
theorem d_HB_owe_27 : decode M_HB_owe.2.1 27 = .ok (.bipush (-2), 2) := by decide +kernel
theorem d_HB_owe_29 : decode M_HB_owe.2.1 29 = .ok (.ireturn, 1) := by decide +kernel
theorem d_HB_owe_20 : decode M_HB_owe.2.1 20 = .ok (.iload_n 3, 1) := by decide +kernel
theorem d_HB_owe_21 : decode M_HB_owe.2.1 21 = .ok (.sipush 9999, 3) := by decide +kernel
theorem d_HB_owe_24 : decode M_HB_owe.2.1 24 = .ok (.if_icmp .le 6, 3) := by decide +kernel
theorem d_HB_owe_30 : decode M_HB_owe.2.1 30 = .ok (.aload_n 0, 1) := by decide +kernel
theorem d_HB_owe_31 : decode M_HB_owe.2.1 31 = .ok (.getfield 12, 3) := by decide +kernel
theorem d_HB_owe_34 : decode M_HB_owe.2.1 34 = .ok (.getfield 49, 3) := by decide +kernel
theorem d_HB_owe_37 : decode M_HB_owe.2.1 37 = .ok (.iload_n 1, 1) := by decide +kernel
theorem d_HB_owe_38 : decode M_HB_owe.2.1 38 = .ok (.iload_n 2, 1) := by decide +kernel
theorem d_HB_owe_39 : decode M_HB_owe.2.1 39 = .ok (.invokevirtual 98, 3) := by decide +kernel
theorem ln_HB_98 : Cond.methodLink "HandshakeBinds" 98 M_Led_debt.1 ∈ TB := inTB 412 (by decide +kernel) rfl
theorem d_HB_owe_42 : decode M_HB_owe.2.1 42 = .ok (.istore 5, 2) := by decide +kernel
theorem d_HB_owe_44 : decode M_HB_owe.2.1 44 = .ok (.aload_n 0, 1) := by decide +kernel
theorem d_HB_owe_45 : decode M_HB_owe.2.1 45 = .ok (.getfield 12, 3) := by decide +kernel
theorem d_HB_owe_48 : decode M_HB_owe.2.1 48 = .ok (.getfield 49, 3) := by decide +kernel
theorem d_HB_owe_51 : decode M_HB_owe.2.1 51 = .ok (.iload_n 1, 1) := by decide +kernel
theorem d_HB_owe_52 : decode M_HB_owe.2.1 52 = .ok (.iload_n 2, 1) := by decide +kernel
theorem d_HB_owe_53 : decode M_HB_owe.2.1 53 = .ok (.iload_n 3, 1) := by decide +kernel
theorem d_HB_owe_54 : decode M_HB_owe.2.1 54 = .ok (.invokevirtual 101, 3) := by decide +kernel
theorem ln_HB_101 : Cond.methodLink "HandshakeBinds" 101 M_Led_setDebt.1 ∈ TB := inTB 413 (by decide +kernel) rfl
theorem d_HB_owe_57 : decode M_HB_owe.2.1 57 = .ok (.iload 5, 2) := by decide +kernel
theorem d_HB_owe_59 : decode M_HB_owe.2.1 59 = .ok (.ireturn, 1) := by decide +kernel
theorem d_HB_owe_13 : decode M_HB_owe.2.1 13 = .ok (.iload 4, 2) := by decide +kernel
theorem d_HB_owe_15 : decode M_HB_owe.2.1 15 = .ok (.ireturn, 1) := by decide +kernel
def M_HB_purse : XM := (⟨"HandshakeBinds", "purse", "(II)I"⟩, prog_1_method_5_code, 4, (some .int))
theorem d_HB_purse_0 : decode M_HB_purse.2.1 0 = .ok (.aload_n 0, 1) := by decide +kernel
theorem d_HB_purse_1 : decode M_HB_purse.2.1 1 = .ok (.iload_n 1, 1) := by decide +kernel
theorem d_HB_purse_2 : decode M_HB_purse.2.1 2 = .ok (.invokevirtual 60, 3) := by decide +kernel
theorem d_HB_purse_5 : decode M_HB_purse.2.1 5 = .ok (.ifCond .ne 5, 3) := by decide +kernel
theorem d_HB_purse_10 : decode M_HB_purse.2.1 10 = .ok (.iload_n 2, 1) := by decide +kernel
theorem d_HB_purse_11 : decode M_HB_purse.2.1 11 = .ok (.ifCond .lt 10, 3) := by decide +kernel
theorem d_HB_purse_21 : decode M_HB_purse.2.1 21 = .ok (.bipush (-2), 2) := by decide +kernel
theorem d_HB_purse_23 : decode M_HB_purse.2.1 23 = .ok (.ireturn, 1) := by decide +kernel
theorem d_HB_purse_14 : decode M_HB_purse.2.1 14 = .ok (.iload_n 2, 1) := by decide +kernel
theorem d_HB_purse_15 : decode M_HB_purse.2.1 15 = .ok (.sipush 9999, 3) := by decide +kernel
theorem d_HB_purse_18 : decode M_HB_purse.2.1 18 = .ok (.if_icmp .le 6, 3) := by decide +kernel
theorem d_HB_purse_24 : decode M_HB_purse.2.1 24 = .ok (.aload_n 0, 1) := by decide +kernel
theorem d_HB_purse_25 : decode M_HB_purse.2.1 25 = .ok (.getfield 12, 3) := by decide +kernel
theorem d_HB_purse_28 : decode M_HB_purse.2.1 28 = .ok (.getfield 49, 3) := by decide +kernel
theorem d_HB_purse_31 : decode M_HB_purse.2.1 31 = .ok (.getfield 76, 3) := by decide +kernel
theorem gf_HB_76 : GFn "HandshakeBinds" 76 2 0 := ⟨_, _, _, rfl, by decide, i_Led, inNW 101 (by decide +kernel) rfl⟩
theorem d_HB_purse_34 : decode M_HB_purse.2.1 34 = .ok (.iload_n 1, 1) := by decide +kernel
theorem d_HB_purse_35 : decode M_HB_purse.2.1 35 = .ok (.invokestatic 69, 3) := by decide +kernel
theorem ln_HB_69 : Cond.methodLink "HandshakeBinds" 69 M_HB_at.1 ∈ TB := inTB 364 (by decide +kernel) rfl
theorem d_HB_purse_38 : decode M_HB_purse.2.1 38 = .ok (.istore_n 3, 1) := by decide +kernel
theorem d_HB_purse_39 : decode M_HB_purse.2.1 39 = .ok (.aload_n 0, 1) := by decide +kernel
theorem d_HB_purse_40 : decode M_HB_purse.2.1 40 = .ok (.getfield 12, 3) := by decide +kernel
theorem d_HB_purse_43 : decode M_HB_purse.2.1 43 = .ok (.getfield 49, 3) := by decide +kernel
theorem d_HB_purse_46 : decode M_HB_purse.2.1 46 = .ok (.getfield 76, 3) := by decide +kernel
theorem d_HB_purse_49 : decode M_HB_purse.2.1 49 = .ok (.iload_n 1, 1) := by decide +kernel
theorem d_HB_purse_50 : decode M_HB_purse.2.1 50 = .ok (.iload_n 2, 1) := by decide +kernel
theorem d_HB_purse_51 : decode M_HB_purse.2.1 51 = .ok (.invokestatic 105, 3) := by decide +kernel
theorem ln_HB_105 : Cond.methodLink "HandshakeBinds" 105 M_HB_put.1 ∈ TB := inTB 421 (by decide +kernel) rfl
theorem d_HB_purse_54 : decode M_HB_purse.2.1 54 = .ok (.iload_n 3, 1) := by decide +kernel
theorem d_HB_purse_55 : decode M_HB_purse.2.1 55 = .ok (.ireturn, 1) := by decide +kernel
theorem d_HB_purse_8 : decode M_HB_purse.2.1 8 = .ok (.iconst (-1), 1) := by decide +kernel
theorem d_HB_purse_9 : decode M_HB_purse.2.1 9 = .ok (.ireturn, 1) := by decide +kernel
def M_HB_row : XM := (⟨"HandshakeBinds", "row", "(III)I"⟩, prog_1_method_10_code, 6, (some .int))
theorem d_HB_row_0 : decode M_HB_row.2.1 0 = .ok (.aload_n 0, 1) := by decide +kernel
theorem d_HB_row_1 : decode M_HB_row.2.1 1 = .ok (.iload_n 1, 1) := by decide +kernel
theorem d_HB_row_2 : decode M_HB_row.2.1 2 = .ok (.invokevirtual 60, 3) := by decide +kernel
theorem d_HB_row_5 : decode M_HB_row.2.1 5 = .ok (.ifCond .eq 12, 3) := by decide +kernel
theorem d_HB_row_17 : decode M_HB_row.2.1 17 = .ok (.iconst (-1), 1) := by decide +kernel
theorem d_HB_row_18 : decode M_HB_row.2.1 18 = .ok (.ireturn, 1) := by decide +kernel
theorem d_HB_row_8 : decode M_HB_row.2.1 8 = .ok (.iload_n 2, 1) := by decide +kernel
theorem d_HB_row_9 : decode M_HB_row.2.1 9 = .ok (.ifCond .lt 8, 3) := by decide +kernel
theorem d_HB_row_12 : decode M_HB_row.2.1 12 = .ok (.iload_n 2, 1) := by decide +kernel
theorem d_HB_row_13 : decode M_HB_row.2.1 13 = .ok (.iconst 4, 1) := by decide +kernel
theorem d_HB_row_14 : decode M_HB_row.2.1 14 = .ok (.if_icmp .lt 5, 3) := by decide +kernel
theorem d_HB_row_19 : decode M_HB_row.2.1 19 = .ok (.iload_n 3, 1) := by decide +kernel
theorem d_HB_row_20 : decode M_HB_row.2.1 20 = .ok (.ifCond .lt 9, 3) := by decide +kernel
theorem d_HB_row_29 : decode M_HB_row.2.1 29 = .ok (.bipush (-2), 2) := by decide +kernel
theorem d_HB_row_31 : decode M_HB_row.2.1 31 = .ok (.ireturn, 1) := by decide +kernel
theorem d_HB_row_23 : decode M_HB_row.2.1 23 = .ok (.iload_n 3, 1) := by decide +kernel
theorem d_HB_row_24 : decode M_HB_row.2.1 24 = .ok (.bipush 9, 2) := by decide +kernel
theorem d_HB_row_26 : decode M_HB_row.2.1 26 = .ok (.if_icmp .le 6, 3) := by decide +kernel
theorem d_HB_row_32 : decode M_HB_row.2.1 32 = .ok (.aload_n 0, 1) := by decide +kernel
theorem d_HB_row_33 : decode M_HB_row.2.1 33 = .ok (.getfield 12, 3) := by decide +kernel
theorem d_HB_row_36 : decode M_HB_row.2.1 36 = .ok (.getfield 65, 3) := by decide +kernel
theorem gf_HB_65 : GFn "HandshakeBinds" 65 1 1 := ⟨_, _, _, rfl, by decide, i_Mkt, inNW 170 (by decide +kernel) rfl⟩
theorem d_HB_row_39 : decode M_HB_row.2.1 39 = .ok (.iload_n 1, 1) := by decide +kernel
theorem d_HB_row_40 : decode M_HB_row.2.1 40 = .ok (.invokestatic 69, 3) := by decide +kernel
theorem d_HB_row_43 : decode M_HB_row.2.1 43 = .ok (.bipush 6, 2) := by decide +kernel
theorem d_HB_row_45 : decode M_HB_row.2.1 45 = .ok (.if_icmp .eq 6, 3) := by decide +kernel
theorem d_HB_row_51 : decode M_HB_row.2.1 51 = .ok (.iload_n 1, 1) := by decide +kernel
theorem d_HB_row_52 : decode M_HB_row.2.1 52 = .ok (.iconst 4, 1) := by decide +kernel
theorem d_HB_row_53 : decode M_HB_row.2.1 53 = .ok (.imul, 1) := by decide +kernel
theorem d_HB_row_54 : decode M_HB_row.2.1 54 = .ok (.iload_n 2, 1) := by decide +kernel
theorem d_HB_row_55 : decode M_HB_row.2.1 55 = .ok (.iadd, 1) := by decide +kernel
theorem d_HB_row_56 : decode M_HB_row.2.1 56 = .ok (.istore 4, 2) := by decide +kernel
theorem d_HB_row_58 : decode M_HB_row.2.1 58 = .ok (.aload_n 0, 1) := by decide +kernel
theorem d_HB_row_59 : decode M_HB_row.2.1 59 = .ok (.getfield 12, 3) := by decide +kernel
theorem d_HB_row_62 : decode M_HB_row.2.1 62 = .ok (.getfield 139, 3) := by decide +kernel
theorem gf_HB_139 : GFn "HandshakeBinds" 139 1 3 := ⟨_, _, _, rfl, by decide, i_Mkt, inNW 174 (by decide +kernel) rfl⟩
theorem d_HB_row_65 : decode M_HB_row.2.1 65 = .ok (.iload 4, 2) := by decide +kernel
theorem d_HB_row_67 : decode M_HB_row.2.1 67 = .ok (.invokestatic 69, 3) := by decide +kernel
theorem d_HB_row_70 : decode M_HB_row.2.1 70 = .ok (.istore 5, 2) := by decide +kernel
theorem d_HB_row_72 : decode M_HB_row.2.1 72 = .ok (.aload_n 0, 1) := by decide +kernel
theorem d_HB_row_73 : decode M_HB_row.2.1 73 = .ok (.getfield 12, 3) := by decide +kernel
theorem d_HB_row_76 : decode M_HB_row.2.1 76 = .ok (.getfield 139, 3) := by decide +kernel
theorem d_HB_row_79 : decode M_HB_row.2.1 79 = .ok (.iload 4, 2) := by decide +kernel
theorem d_HB_row_81 : decode M_HB_row.2.1 81 = .ok (.iload_n 3, 1) := by decide +kernel
theorem d_HB_row_82 : decode M_HB_row.2.1 82 = .ok (.invokestatic 105, 3) := by decide +kernel
theorem d_HB_row_85 : decode M_HB_row.2.1 85 = .ok (.iload 5, 2) := by decide +kernel
theorem d_HB_row_87 : decode M_HB_row.2.1 87 = .ok (.ireturn, 1) := by decide +kernel
theorem d_HB_row_48 : decode M_HB_row.2.1 48 = .ok (.bipush (-3), 2) := by decide +kernel
theorem d_HB_row_50 : decode M_HB_row.2.1 50 = .ok (.ireturn, 1) := by decide +kernel
def M_HB_pass : XM := (⟨"HandshakeBinds", "pass", "(I)I"⟩, prog_1_method_14_code, 2, (some .int))
theorem d_HB_pass_0 : decode M_HB_pass.2.1 0 = .ok (.iload_n 1, 1) := by decide +kernel
theorem d_HB_pass_1 : decode M_HB_pass.2.1 1 = .ok (.ifCond .lt 9, 3) := by decide +kernel
theorem d_HB_pass_10 : decode M_HB_pass.2.1 10 = .ok (.bipush (-2), 2) := by decide +kernel
theorem d_HB_pass_12 : decode M_HB_pass.2.1 12 = .ok (.ireturn, 1) := by decide +kernel
theorem d_HB_pass_4 : decode M_HB_pass.2.1 4 = .ok (.iload_n 1, 1) := by decide +kernel
theorem d_HB_pass_5 : decode M_HB_pass.2.1 5 = .ok (.bipush 60, 2) := by decide +kernel
theorem d_HB_pass_7 : decode M_HB_pass.2.1 7 = .ok (.if_icmp .le 6, 3) := by decide +kernel
theorem d_HB_pass_13 : decode M_HB_pass.2.1 13 = .ok (.aload_n 0, 1) := by decide +kernel
theorem d_HB_pass_14 : decode M_HB_pass.2.1 14 = .ok (.getfield 12, 3) := by decide +kernel
theorem d_HB_pass_17 : decode M_HB_pass.2.1 17 = .ok (.getfield 113, 3) := by decide +kernel
theorem gf_HB_113 : GFn "HandshakeBinds" 113 1 9 := ⟨_, _, _, rfl, by decide, i_Mkt, inNW 184 (by decide +kernel) rfl⟩
theorem d_HB_pass_20 : decode M_HB_pass.2.1 20 = .ok (.iload_n 1, 1) := by decide +kernel
theorem d_HB_pass_21 : decode M_HB_pass.2.1 21 = .ok (.iadd, 1) := by decide +kernel
theorem d_HB_pass_22 : decode M_HB_pass.2.1 22 = .ok (.sipush 9999, 3) := by decide +kernel
theorem d_HB_pass_25 : decode M_HB_pass.2.1 25 = .ok (.if_icmp .le 6, 3) := by decide +kernel
theorem d_HB_pass_31 : decode M_HB_pass.2.1 31 = .ok (.aload_n 0, 1) := by decide +kernel
theorem d_HB_pass_32 : decode M_HB_pass.2.1 32 = .ok (.getfield 12, 3) := by decide +kernel
theorem d_HB_pass_35 : decode M_HB_pass.2.1 35 = .ok (.dup, 1) := by decide +kernel
theorem d_HB_pass_36 : decode M_HB_pass.2.1 36 = .ok (.getfield 113, 3) := by decide +kernel
theorem d_HB_pass_39 : decode M_HB_pass.2.1 39 = .ok (.iload_n 1, 1) := by decide +kernel
theorem d_HB_pass_40 : decode M_HB_pass.2.1 40 = .ok (.iadd, 1) := by decide +kernel
theorem d_HB_pass_41 : decode M_HB_pass.2.1 41 = .ok (.putfield 113, 3) := by decide +kernel
theorem pf_HB_113 : PFn "HandshakeBinds" 113 1 9 (.int) := ⟨_, _, _, t_Mkt, rfl, by decide, i_Mkt, t_Mkt_ok, n_Mkt, inNW 184 (by decide +kernel) rfl, rfl, t_Mkt_ok 9 (by decide)⟩
theorem d_HB_pass_44 : decode M_HB_pass.2.1 44 = .ok (.aload_n 0, 1) := by decide +kernel
theorem d_HB_pass_45 : decode M_HB_pass.2.1 45 = .ok (.getfield 12, 3) := by decide +kernel
theorem d_HB_pass_48 : decode M_HB_pass.2.1 48 = .ok (.getfield 113, 3) := by decide +kernel
theorem d_HB_pass_51 : decode M_HB_pass.2.1 51 = .ok (.ireturn, 1) := by decide +kernel
theorem d_HB_pass_28 : decode M_HB_pass.2.1 28 = .ok (.bipush (-3), 2) := by decide +kernel
theorem d_HB_pass_30 : decode M_HB_pass.2.1 30 = .ok (.ireturn, 1) := by decide +kernel
def ST (X : Xn) (a : Nat → Nat) (ν : Nat → Nat → Nat) (σ : Nat → Nat → Int32) (τ : Nat → Nat → Int64) : va_W := [(a 0, .inr (6, [.ref (a 1), .ref (a 2), .ref (a 3), .int (nI (ν 0 3)), .int (nI (ν 0 4)), .int (nI (ν 0 5)), .ref (ν 0 6)])), (a 1, .inl (X.2.2.1 0, 100, .inl (σ 1)))]
def M_Scr_append : XM := (⟨"HandshakeBinds$Scribe", "append", "(I)I"⟩, prog_8_method_3_code, 2, (some .int))
theorem d_Scr_append_0 : decode M_Scr_append.2.1 0 = .ok (.aload_n 0, 1) := by decide +kernel
theorem d_Scr_append_1 : decode M_Scr_append.2.1 1 = .ok (.getfield 9, 3) := by decide +kernel
theorem gf_Scr_9 : GF "HandshakeBinds$Scribe" 9 6 0 := ⟨_, _, _, rfl, by decide, i_Scr, inTB 247 (by decide +kernel) rfl⟩
theorem d_Scr_append_4 : decode M_Scr_append.2.1 4 = .ok (.aload_n 0, 1) := by decide +kernel
theorem d_Scr_append_5 : decode M_Scr_append.2.1 5 = .ok (.getfield 29, 3) := by decide +kernel
theorem gf_Scr_29 : GF "HandshakeBinds$Scribe" 29 6 3 := ⟨_, _, _, rfl, by decide, i_Scr, inTB 250 (by decide +kernel) rfl⟩
theorem d_Scr_append_8 : decode M_Scr_append.2.1 8 = .ok (.iload_n 1, 1) := by decide +kernel
theorem d_Scr_append_9 : decode M_Scr_append.2.1 9 = .ok (.invokestatic 33, 3) := by decide +kernel
theorem ln_Scr_33 : Cond.methodLinkNest "HandshakeBinds$Scribe" 33 M_HB_put.1 "HandshakeBinds" ∈ NW := inNW 509 (by decide +kernel) rfl
theorem d_Scr_append_12 : decode M_Scr_append.2.1 12 = .ok (.aload_n 0, 1) := by decide +kernel
theorem d_Scr_append_13 : decode M_Scr_append.2.1 13 = .ok (.dup, 1) := by decide +kernel
theorem d_Scr_append_14 : decode M_Scr_append.2.1 14 = .ok (.getfield 29, 3) := by decide +kernel
theorem d_Scr_append_17 : decode M_Scr_append.2.1 17 = .ok (.iconst 1, 1) := by decide +kernel
theorem d_Scr_append_18 : decode M_Scr_append.2.1 18 = .ok (.iadd, 1) := by decide +kernel
theorem d_Scr_append_19 : decode M_Scr_append.2.1 19 = .ok (.putfield 29, 3) := by decide +kernel
theorem pf_Scr_29 : PF "HandshakeBinds$Scribe" 29 6 3 (.int) false := ⟨_, _, _, t_Scr, rfl, by decide, i_Scr, t_Scr_ok, n_Scr, inTB 250 (by decide +kernel) rfl, rfl, t_Scr_ok 3 (by decide), fun _ => rfl⟩
theorem d_Scr_append_22 : decode M_Scr_append.2.1 22 = .ok (.aload_n 0, 1) := by decide +kernel
theorem d_Scr_append_23 : decode M_Scr_append.2.1 23 = .ok (.getfield 29, 3) := by decide +kernel
theorem d_Scr_append_26 : decode M_Scr_append.2.1 26 = .ok (.ireturn, 1) := by decide +kernel
def M_HB_feed : XM := (⟨"HandshakeBinds", "feed", "(I)I"⟩, prog_1_method_11_code, 2, (some .int))
theorem d_HB_feed_0 : decode M_HB_feed.2.1 0 = .ok (.iload_n 1, 1) := by decide +kernel
theorem d_HB_feed_1 : decode M_HB_feed.2.1 1 = .ok (.ifCond .lt 9, 3) := by decide +kernel
theorem d_HB_feed_10 : decode M_HB_feed.2.1 10 = .ok (.bipush (-2), 2) := by decide +kernel
theorem d_HB_feed_12 : decode M_HB_feed.2.1 12 = .ok (.ireturn, 1) := by decide +kernel
theorem d_HB_feed_4 : decode M_HB_feed.2.1 4 = .ok (.iload_n 1, 1) := by decide +kernel
theorem d_HB_feed_5 : decode M_HB_feed.2.1 5 = .ok (.bipush 127, 2) := by decide +kernel
theorem d_HB_feed_7 : decode M_HB_feed.2.1 7 = .ok (.if_icmp .le 6, 3) := by decide +kernel
theorem d_HB_feed_13 : decode M_HB_feed.2.1 13 = .ok (.aload_n 0, 1) := by decide +kernel
theorem d_HB_feed_14 : decode M_HB_feed.2.1 14 = .ok (.getfield 31, 3) := by decide +kernel
theorem gf_HB_31 : GF "HandshakeBinds" 31 0 3 := ⟨_, _, _, rfl, by decide, i_HB, inTB 320 (by decide +kernel) rfl⟩
theorem d_HB_feed_17 : decode M_HB_feed.2.1 17 = .ok (.getfield 142, 3) := by decide +kernel
theorem gf_HB_142 : GFn "HandshakeBinds" 142 6 3 := ⟨_, _, _, rfl, by decide, i_Scr, inNW 251 (by decide +kernel) rfl⟩
theorem d_HB_feed_20 : decode M_HB_feed.2.1 20 = .ok (.bipush 100, 2) := by decide +kernel
theorem d_HB_feed_22 : decode M_HB_feed.2.1 22 = .ok (.if_icmp .lt 6, 3) := by decide +kernel
theorem d_HB_feed_28 : decode M_HB_feed.2.1 28 = .ok (.aload_n 0, 1) := by decide +kernel
theorem d_HB_feed_29 : decode M_HB_feed.2.1 29 = .ok (.getfield 31, 3) := by decide +kernel
theorem d_HB_feed_32 : decode M_HB_feed.2.1 32 = .ok (.iload_n 1, 1) := by decide +kernel
theorem d_HB_feed_33 : decode M_HB_feed.2.1 33 = .ok (.invokevirtual 143, 3) := by decide +kernel
theorem ln_HB_143 : Cond.methodLink "HandshakeBinds" 143 M_Scr_append.1 ∈ TB := inTB 505 (by decide +kernel) rfl
theorem lk_Scr_append : LVt M_Scr_append 1 := ⟨⟨inTB 68 (by decide +kernel) rfl, inTB 508 (by decide +kernel) rfl, ⟨by decide, by decide, by decide +kernel⟩, by decide⟩, inTB 506 (by decide +kernel) rfl, inTB 507 (by decide +kernel) rfl⟩
theorem d_HB_feed_36 : decode M_HB_feed.2.1 36 = .ok (.ireturn, 1) := by decide +kernel
theorem d_HB_feed_25 : decode M_HB_feed.2.1 25 = .ok (.bipush (-4), 2) := by decide +kernel
theorem d_HB_feed_27 : decode M_HB_feed.2.1 27 = .ok (.ireturn, 1) := by decide +kernel
def M_HB_trader : XM := (⟨"HandshakeBinds", "trader", "(II)I"⟩, prog_1_method_2_code, 3, (some .int))
theorem d_HB_trader_0 : decode M_HB_trader.2.1 0 = .ok (.iload_n 1, 1) := by decide +kernel
theorem d_HB_trader_1 : decode M_HB_trader.2.1 1 = .ok (.ifCond .lt 9, 3) := by decide +kernel
theorem d_HB_trader_10 : decode M_HB_trader.2.1 10 = .ok (.iconst (-1), 1) := by decide +kernel
theorem d_HB_trader_11 : decode M_HB_trader.2.1 11 = .ok (.ireturn, 1) := by decide +kernel
theorem d_HB_trader_4 : decode M_HB_trader.2.1 4 = .ok (.iload_n 1, 1) := by decide +kernel
theorem d_HB_trader_5 : decode M_HB_trader.2.1 5 = .ok (.bipush 7, 2) := by decide +kernel
theorem d_HB_trader_7 : decode M_HB_trader.2.1 7 = .ok (.if_icmp .lt 5, 3) := by decide +kernel
theorem d_HB_trader_12 : decode M_HB_trader.2.1 12 = .ok (.iload_n 2, 1) := by decide +kernel
theorem d_HB_trader_13 : decode M_HB_trader.2.1 13 = .ok (.ifCond .lt 9, 3) := by decide +kernel
theorem d_HB_trader_22 : decode M_HB_trader.2.1 22 = .ok (.bipush (-2), 2) := by decide +kernel
theorem d_HB_trader_24 : decode M_HB_trader.2.1 24 = .ok (.ireturn, 1) := by decide +kernel
theorem d_HB_trader_16 : decode M_HB_trader.2.1 16 = .ok (.iload_n 2, 1) := by decide +kernel
theorem d_HB_trader_17 : decode M_HB_trader.2.1 17 = .ok (.bipush 9, 2) := by decide +kernel
theorem d_HB_trader_19 : decode M_HB_trader.2.1 19 = .ok (.if_icmp .le 6, 3) := by decide +kernel
theorem d_HB_trader_25 : decode M_HB_trader.2.1 25 = .ok (.aload_n 0, 1) := by decide +kernel
theorem d_HB_trader_26 : decode M_HB_trader.2.1 26 = .ok (.getfield 12, 3) := by decide +kernel
theorem d_HB_trader_29 : decode M_HB_trader.2.1 29 = .ok (.getfield 49, 3) := by decide +kernel
theorem d_HB_trader_32 : decode M_HB_trader.2.1 32 = .ok (.getfield 52, 3) := by decide +kernel
theorem d_HB_trader_35 : decode M_HB_trader.2.1 35 = .ok (.bipush 6, 2) := by decide +kernel
theorem d_HB_trader_37 : decode M_HB_trader.2.1 37 = .ok (.if_icmp .lt 6, 3) := by decide +kernel
theorem d_HB_trader_43 : decode M_HB_trader.2.1 43 = .ok (.aload_n 0, 1) := by decide +kernel
theorem d_HB_trader_44 : decode M_HB_trader.2.1 44 = .ok (.getfield 12, 3) := by decide +kernel
theorem d_HB_trader_47 : decode M_HB_trader.2.1 47 = .ok (.iload_n 1, 1) := by decide +kernel
theorem d_HB_trader_48 : decode M_HB_trader.2.1 48 = .ok (.iload_n 2, 1) := by decide +kernel
theorem d_HB_trader_49 : decode M_HB_trader.2.1 49 = .ok (.invokevirtual 56, 3) := by decide +kernel
theorem ln_HB_56 : Cond.methodLink "HandshakeBinds" 56 M_Mkt_join.1 ∈ TB := inTB 343 (by decide +kernel) rfl
theorem lk_Mkt_join : LVt M_Mkt_join 2 := ⟨⟨inTB 63 (by decide +kernel) rfl, inTB 346 (by decide +kernel) rfl, ⟨by decide, by decide, by decide +kernel⟩, by decide⟩, inTB 344 (by decide +kernel) rfl, inTB 345 (by decide +kernel) rfl⟩
theorem d_HB_trader_52 : decode M_HB_trader.2.1 52 = .ok (.ireturn, 1) := by decide +kernel
theorem d_HB_trader_40 : decode M_HB_trader.2.1 40 = .ok (.bipush (-4), 2) := by decide +kernel
theorem d_HB_trader_42 : decode M_HB_trader.2.1 42 = .ok (.ireturn, 1) := by decide +kernel
def M_HB_see : XM := (⟨"HandshakeBinds", "see", "(IIIII)I"⟩, prog_1_method_15_code, 7, (some .int))
theorem d_HB_see_0 : decode M_HB_see.2.1 0 = .ok (.iload_n 1, 1) := by decide +kernel
theorem d_HB_see_1 : decode M_HB_see.2.1 1 = .ok (.iconst (-1), 1) := by decide +kernel
theorem d_HB_see_2 : decode M_HB_see.2.1 2 = .ok (.if_icmp .ne 16, 3) := by decide +kernel
theorem d_HB_see_18 : decode M_HB_see.2.1 18 = .ok (.aload_n 0, 1) := by decide +kernel
theorem d_HB_see_19 : decode M_HB_see.2.1 19 = .ok (.iload_n 1, 1) := by decide +kernel
theorem d_HB_see_20 : decode M_HB_see.2.1 20 = .ok (.iload_n 2, 1) := by decide +kernel
theorem d_HB_see_21 : decode M_HB_see.2.1 21 = .ok (.invokevirtual 95, 3) := by decide +kernel
theorem d_HB_see_24 : decode M_HB_see.2.1 24 = .ok (.istore 6, 2) := by decide +kernel
theorem d_HB_see_26 : decode M_HB_see.2.1 26 = .ok (.iload 6, 2) := by decide +kernel
theorem d_HB_see_28 : decode M_HB_see.2.1 28 = .ok (.ifCond .eq 6, 3) := by decide +kernel
theorem d_HB_see_34 : decode M_HB_see.2.1 34 = .ok (.iload_n 3, 1) := by decide +kernel
theorem d_HB_see_35 : decode M_HB_see.2.1 35 = .ok (.ifCond .lt 34, 3) := by decide +kernel
theorem d_HB_see_69 : decode M_HB_see.2.1 69 = .ok (.bipush (-2), 2) := by decide +kernel
theorem d_HB_see_71 : decode M_HB_see.2.1 71 = .ok (.ireturn, 1) := by decide +kernel
theorem d_HB_see_38 : decode M_HB_see.2.1 38 = .ok (.iload_n 3, 1) := by decide +kernel
theorem d_HB_see_39 : decode M_HB_see.2.1 39 = .ok (.bipush 99, 2) := by decide +kernel
theorem d_HB_see_41 : decode M_HB_see.2.1 41 = .ok (.if_icmp .gt 28, 3) := by decide +kernel
theorem d_HB_see_44 : decode M_HB_see.2.1 44 = .ok (.iload 4, 2) := by decide +kernel
theorem d_HB_see_46 : decode M_HB_see.2.1 46 = .ok (.ifCond .lt 23, 3) := by decide +kernel
theorem d_HB_see_49 : decode M_HB_see.2.1 49 = .ok (.iload 4, 2) := by decide +kernel
theorem d_HB_see_51 : decode M_HB_see.2.1 51 = .ok (.bipush 20, 2) := by decide +kernel
theorem d_HB_see_53 : decode M_HB_see.2.1 53 = .ok (.if_icmp .gt 16, 3) := by decide +kernel
theorem d_HB_see_56 : decode M_HB_see.2.1 56 = .ok (.iload 5, 2) := by decide +kernel
theorem d_HB_see_58 : decode M_HB_see.2.1 58 = .ok (.ifCond .lt 11, 3) := by decide +kernel
theorem d_HB_see_61 : decode M_HB_see.2.1 61 = .ok (.iload 5, 2) := by decide +kernel
theorem d_HB_see_63 : decode M_HB_see.2.1 63 = .ok (.sipush 999, 3) := by decide +kernel
theorem d_HB_see_66 : decode M_HB_see.2.1 66 = .ok (.if_icmp .le 6, 3) := by decide +kernel
theorem d_HB_see_72 : decode M_HB_see.2.1 72 = .ok (.aload_n 0, 1) := by decide +kernel
theorem d_HB_see_73 : decode M_HB_see.2.1 73 = .ok (.getfield 12, 3) := by decide +kernel
theorem d_HB_see_76 : decode M_HB_see.2.1 76 = .ok (.getfield 175, 3) := by decide +kernel
theorem gf_HB_175 : GFn "HandshakeBinds" 175 1 4 := ⟨_, _, _, rfl, by decide, i_Mkt, inNW 176 (by decide +kernel) rfl⟩
theorem d_HB_see_79 : decode M_HB_see.2.1 79 = .ok (.iload_n 1, 1) := by decide +kernel
theorem d_HB_see_80 : decode M_HB_see.2.1 80 = .ok (.iload_n 2, 1) := by decide +kernel
theorem d_HB_see_81 : decode M_HB_see.2.1 81 = .ok (.iload_n 3, 1) := by decide +kernel
theorem d_HB_see_82 : decode M_HB_see.2.1 82 = .ok (.iload 4, 2) := by decide +kernel
theorem d_HB_see_84 : decode M_HB_see.2.1 84 = .ok (.iload 5, 2) := by decide +kernel
theorem d_HB_see_86 : decode M_HB_see.2.1 86 = .ok (.invokevirtual 182, 3) := by decide +kernel
theorem ln_HB_182 : Cond.methodLink "HandshakeBinds" 182 M_Rws_add.1 ∈ TB := inTB 657 (by decide +kernel) rfl
theorem lk_Rws_add : LVt M_Rws_add 5 := ⟨⟨inTB 65 (by decide +kernel) rfl, inTB 660 (by decide +kernel) rfl, ⟨by decide, by decide, by decide +kernel⟩, by decide⟩, inTB 658 (by decide +kernel) rfl, inTB 659 (by decide +kernel) rfl⟩
theorem d_HB_see_89 : decode M_HB_see.2.1 89 = .ok (.ifCond .eq 16, 3) := by decide +kernel
theorem d_HB_see_105 : decode M_HB_see.2.1 105 = .ok (.bipush (-4), 2) := by decide +kernel
theorem d_HB_see_107 : decode M_HB_see.2.1 107 = .ok (.ireturn, 1) := by decide +kernel
theorem d_HB_see_92 : decode M_HB_see.2.1 92 = .ok (.aload_n 0, 1) := by decide +kernel
theorem d_HB_see_93 : decode M_HB_see.2.1 93 = .ok (.getfield 12, 3) := by decide +kernel
theorem d_HB_see_96 : decode M_HB_see.2.1 96 = .ok (.getfield 175, 3) := by decide +kernel
theorem d_HB_see_99 : decode M_HB_see.2.1 99 = .ok (.getfield 179, 3) := by decide +kernel
theorem gf_HB_179 : GFn "HandshakeBinds" 179 3 1 := ⟨_, _, _, rfl, by decide, i_Rws, inNW 129 (by decide +kernel) rfl⟩
theorem d_HB_see_102 : decode M_HB_see.2.1 102 = .ok (.goto 5, 3) := by decide +kernel
theorem d_HB_see_31 : decode M_HB_see.2.1 31 = .ok (.iload 6, 2) := by decide +kernel
theorem d_HB_see_33 : decode M_HB_see.2.1 33 = .ok (.ireturn, 1) := by decide +kernel
theorem d_HB_see_5 : decode M_HB_see.2.1 5 = .ok (.aload_n 0, 1) := by decide +kernel
theorem d_HB_see_6 : decode M_HB_see.2.1 6 = .ok (.getfield 12, 3) := by decide +kernel
theorem d_HB_see_9 : decode M_HB_see.2.1 9 = .ok (.getfield 175, 3) := by decide +kernel
theorem d_HB_see_12 : decode M_HB_see.2.1 12 = .ok (.iconst 0, 1) := by decide +kernel
theorem d_HB_see_13 : decode M_HB_see.2.1 13 = .ok (.putfield 179, 3) := by decide +kernel
theorem pf_HB_179 : PFn "HandshakeBinds" 179 3 1 (.int) := ⟨_, _, _, t_Rws, rfl, by decide, i_Rws, t_Rws_ok, n_Rws, inNW 129 (by decide +kernel) rfl, rfl, t_Rws_ok 1 (by decide)⟩
theorem d_HB_see_16 : decode M_HB_see.2.1 16 = .ok (.iconst 0, 1) := by decide +kernel
theorem d_HB_see_17 : decode M_HB_see.2.1 17 = .ok (.ireturn, 1) := by decide +kernel
def M_HB_book : XM := (⟨"HandshakeBinds", "book", "(III)I"⟩, prog_1_method_22_code, 5, (some .int))
theorem d_HB_book_0 : decode M_HB_book.2.1 0 = .ok (.iload_n 1, 1) := by decide +kernel
theorem d_HB_book_1 : decode M_HB_book.2.1 1 = .ok (.iconst (-1), 1) := by decide +kernel
theorem d_HB_book_2 : decode M_HB_book.2.1 2 = .ok (.if_icmp .ne 16, 3) := by decide +kernel
theorem d_HB_book_18 : decode M_HB_book.2.1 18 = .ok (.aload_n 0, 1) := by decide +kernel
theorem d_HB_book_19 : decode M_HB_book.2.1 19 = .ok (.iload_n 1, 1) := by decide +kernel
theorem d_HB_book_20 : decode M_HB_book.2.1 20 = .ok (.iload_n 2, 1) := by decide +kernel
theorem d_HB_book_21 : decode M_HB_book.2.1 21 = .ok (.invokevirtual 95, 3) := by decide +kernel
theorem d_HB_book_24 : decode M_HB_book.2.1 24 = .ok (.istore 4, 2) := by decide +kernel
theorem d_HB_book_26 : decode M_HB_book.2.1 26 = .ok (.iload 4, 2) := by decide +kernel
theorem d_HB_book_28 : decode M_HB_book.2.1 28 = .ok (.ifCond .eq 6, 3) := by decide +kernel
theorem d_HB_book_34 : decode M_HB_book.2.1 34 = .ok (.iload_n 3, 1) := by decide +kernel
theorem d_HB_book_35 : decode M_HB_book.2.1 35 = .ok (.ifCond .lt 10, 3) := by decide +kernel
theorem d_HB_book_45 : decode M_HB_book.2.1 45 = .ok (.bipush (-2), 2) := by decide +kernel
theorem d_HB_book_47 : decode M_HB_book.2.1 47 = .ok (.ireturn, 1) := by decide +kernel
theorem d_HB_book_38 : decode M_HB_book.2.1 38 = .ok (.iload_n 3, 1) := by decide +kernel
theorem d_HB_book_39 : decode M_HB_book.2.1 39 = .ok (.sipush 9999, 3) := by decide +kernel
theorem d_HB_book_42 : decode M_HB_book.2.1 42 = .ok (.if_icmp .le 6, 3) := by decide +kernel
theorem d_HB_book_48 : decode M_HB_book.2.1 48 = .ok (.aload_n 0, 1) := by decide +kernel
theorem d_HB_book_49 : decode M_HB_book.2.1 49 = .ok (.getfield 12, 3) := by decide +kernel
theorem d_HB_book_52 : decode M_HB_book.2.1 52 = .ok (.getfield 217, 3) := by decide +kernel
theorem gf_HB_217 : GFn "HandshakeBinds" 217 1 6 := ⟨_, _, _, rfl, by decide, i_Mkt, inNW 180 (by decide +kernel) rfl⟩
theorem d_HB_book_55 : decode M_HB_book.2.1 55 = .ok (.iload_n 1, 1) := by decide +kernel
theorem d_HB_book_56 : decode M_HB_book.2.1 56 = .ok (.iload_n 2, 1) := by decide +kernel
theorem d_HB_book_57 : decode M_HB_book.2.1 57 = .ok (.iload_n 3, 1) := by decide +kernel
theorem d_HB_book_58 : decode M_HB_book.2.1 58 = .ok (.iconst 0, 1) := by decide +kernel
theorem d_HB_book_59 : decode M_HB_book.2.1 59 = .ok (.iconst 0, 1) := by decide +kernel
theorem d_HB_book_60 : decode M_HB_book.2.1 60 = .ok (.invokevirtual 182, 3) := by decide +kernel
theorem d_HB_book_63 : decode M_HB_book.2.1 63 = .ok (.ifCond .eq 16, 3) := by decide +kernel
theorem d_HB_book_79 : decode M_HB_book.2.1 79 = .ok (.bipush (-4), 2) := by decide +kernel
theorem d_HB_book_81 : decode M_HB_book.2.1 81 = .ok (.ireturn, 1) := by decide +kernel
theorem d_HB_book_66 : decode M_HB_book.2.1 66 = .ok (.aload_n 0, 1) := by decide +kernel
theorem d_HB_book_67 : decode M_HB_book.2.1 67 = .ok (.getfield 12, 3) := by decide +kernel
theorem d_HB_book_70 : decode M_HB_book.2.1 70 = .ok (.getfield 217, 3) := by decide +kernel
theorem d_HB_book_73 : decode M_HB_book.2.1 73 = .ok (.getfield 179, 3) := by decide +kernel
theorem d_HB_book_76 : decode M_HB_book.2.1 76 = .ok (.goto 5, 3) := by decide +kernel
theorem d_HB_book_31 : decode M_HB_book.2.1 31 = .ok (.iload 4, 2) := by decide +kernel
theorem d_HB_book_33 : decode M_HB_book.2.1 33 = .ok (.ireturn, 1) := by decide +kernel
theorem d_HB_book_5 : decode M_HB_book.2.1 5 = .ok (.aload_n 0, 1) := by decide +kernel
theorem d_HB_book_6 : decode M_HB_book.2.1 6 = .ok (.getfield 12, 3) := by decide +kernel
theorem d_HB_book_9 : decode M_HB_book.2.1 9 = .ok (.getfield 217, 3) := by decide +kernel
theorem d_HB_book_12 : decode M_HB_book.2.1 12 = .ok (.iconst 0, 1) := by decide +kernel
theorem d_HB_book_13 : decode M_HB_book.2.1 13 = .ok (.putfield 179, 3) := by decide +kernel
theorem d_HB_book_16 : decode M_HB_book.2.1 16 = .ok (.iconst 0, 1) := by decide +kernel
theorem d_HB_book_17 : decode M_HB_book.2.1 17 = .ok (.ireturn, 1) := by decide +kernel
def M_HB_plan : XM := (⟨"HandshakeBinds", "plan", "(II)I"⟩, prog_1_method_20_code, 3, (some .int))
theorem d_HB_plan_0 : decode M_HB_plan.2.1 0 = .ok (.iload_n 1, 1) := by decide +kernel
theorem d_HB_plan_1 : decode M_HB_plan.2.1 1 = .ok (.iconst (-1), 1) := by decide +kernel
theorem d_HB_plan_2 : decode M_HB_plan.2.1 2 = .ok (.if_icmp .ne 16, 3) := by decide +kernel
theorem d_HB_plan_18 : decode M_HB_plan.2.1 18 = .ok (.iload_n 1, 1) := by decide +kernel
theorem d_HB_plan_19 : decode M_HB_plan.2.1 19 = .ok (.ifCond .lt 20, 3) := by decide +kernel
theorem d_HB_plan_39 : decode M_HB_plan.2.1 39 = .ok (.iconst (-1), 1) := by decide +kernel
theorem d_HB_plan_40 : decode M_HB_plan.2.1 40 = .ok (.ireturn, 1) := by decide +kernel
theorem d_HB_plan_22 : decode M_HB_plan.2.1 22 = .ok (.iload_n 1, 1) := by decide +kernel
theorem d_HB_plan_23 : decode M_HB_plan.2.1 23 = .ok (.iconst 3, 1) := by decide +kernel
theorem d_HB_plan_24 : decode M_HB_plan.2.1 24 = .ok (.if_icmp .gt 15, 3) := by decide +kernel
theorem d_HB_plan_27 : decode M_HB_plan.2.1 27 = .ok (.iload_n 1, 1) := by decide +kernel
theorem d_HB_plan_28 : decode M_HB_plan.2.1 28 = .ok (.ifCond .eq 13, 3) := by decide +kernel
theorem d_HB_plan_41 : decode M_HB_plan.2.1 41 = .ok (.aload_n 0, 1) := by decide +kernel
theorem d_HB_plan_42 : decode M_HB_plan.2.1 42 = .ok (.getfield 12, 3) := by decide +kernel
theorem d_HB_plan_45 : decode M_HB_plan.2.1 45 = .ok (.getfield 206, 3) := by decide +kernel
theorem gf_HB_206 : GFn "HandshakeBinds" 206 1 5 := ⟨_, _, _, rfl, by decide, i_Mkt, inNW 178 (by decide +kernel) rfl⟩
theorem d_HB_plan_48 : decode M_HB_plan.2.1 48 = .ok (.iload_n 1, 1) := by decide +kernel
theorem d_HB_plan_49 : decode M_HB_plan.2.1 49 = .ok (.iload_n 2, 1) := by decide +kernel
theorem d_HB_plan_50 : decode M_HB_plan.2.1 50 = .ok (.iconst 0, 1) := by decide +kernel
theorem d_HB_plan_51 : decode M_HB_plan.2.1 51 = .ok (.iconst 0, 1) := by decide +kernel
theorem d_HB_plan_52 : decode M_HB_plan.2.1 52 = .ok (.iconst 0, 1) := by decide +kernel
theorem d_HB_plan_53 : decode M_HB_plan.2.1 53 = .ok (.invokevirtual 182, 3) := by decide +kernel
theorem d_HB_plan_56 : decode M_HB_plan.2.1 56 = .ok (.ifCond .eq 16, 3) := by decide +kernel
theorem d_HB_plan_72 : decode M_HB_plan.2.1 72 = .ok (.bipush (-4), 2) := by decide +kernel
theorem d_HB_plan_74 : decode M_HB_plan.2.1 74 = .ok (.ireturn, 1) := by decide +kernel
theorem d_HB_plan_59 : decode M_HB_plan.2.1 59 = .ok (.aload_n 0, 1) := by decide +kernel
theorem d_HB_plan_60 : decode M_HB_plan.2.1 60 = .ok (.getfield 12, 3) := by decide +kernel
theorem d_HB_plan_63 : decode M_HB_plan.2.1 63 = .ok (.getfield 206, 3) := by decide +kernel
theorem d_HB_plan_66 : decode M_HB_plan.2.1 66 = .ok (.getfield 179, 3) := by decide +kernel
theorem d_HB_plan_69 : decode M_HB_plan.2.1 69 = .ok (.goto 5, 3) := by decide +kernel
theorem d_HB_plan_31 : decode M_HB_plan.2.1 31 = .ok (.aload_n 0, 1) := by decide +kernel
theorem d_HB_plan_32 : decode M_HB_plan.2.1 32 = .ok (.iload_n 2, 1) := by decide +kernel
theorem d_HB_plan_33 : decode M_HB_plan.2.1 33 = .ok (.invokevirtual 60, 3) := by decide +kernel
theorem d_HB_plan_36 : decode M_HB_plan.2.1 36 = .ok (.ifCond .ne 5, 3) := by decide +kernel
theorem d_HB_plan_5 : decode M_HB_plan.2.1 5 = .ok (.aload_n 0, 1) := by decide +kernel
theorem d_HB_plan_6 : decode M_HB_plan.2.1 6 = .ok (.getfield 12, 3) := by decide +kernel
theorem d_HB_plan_9 : decode M_HB_plan.2.1 9 = .ok (.getfield 206, 3) := by decide +kernel
theorem d_HB_plan_12 : decode M_HB_plan.2.1 12 = .ok (.iconst 0, 1) := by decide +kernel
theorem d_HB_plan_13 : decode M_HB_plan.2.1 13 = .ok (.putfield 179, 3) := by decide +kernel
theorem d_HB_plan_16 : decode M_HB_plan.2.1 16 = .ok (.iconst 0, 1) := by decide +kernel
theorem d_HB_plan_17 : decode M_HB_plan.2.1 17 = .ok (.ireturn, 1) := by decide +kernel
def M_HB_looked : XM := (⟨"HandshakeBinds", "looked", "()I"⟩, prog_1_method_23_code, 2, (some .int))
theorem d_HB_looked_0 : decode M_HB_looked.2.1 0 = .ok (.iconst 0, 1) := by decide +kernel
theorem d_HB_looked_1 : decode M_HB_looked.2.1 1 = .ok (.istore_n 1, 1) := by decide +kernel
theorem d_HB_looked_2 : decode M_HB_looked.2.1 2 = .ok (.iload_n 1, 1) := by decide +kernel
theorem d_HB_looked_3 : decode M_HB_looked.2.1 3 = .ok (.aload_n 0, 1) := by decide +kernel
theorem d_HB_looked_4 : decode M_HB_looked.2.1 4 = .ok (.getfield 12, 3) := by decide +kernel
theorem d_HB_looked_7 : decode M_HB_looked.2.1 7 = .ok (.getfield 217, 3) := by decide +kernel
theorem d_HB_looked_10 : decode M_HB_looked.2.1 10 = .ok (.getfield 179, 3) := by decide +kernel
theorem d_HB_looked_13 : decode M_HB_looked.2.1 13 = .ok (.if_icmp .ge 60, 3) := by decide +kernel
theorem d_HB_looked_73 : decode M_HB_looked.2.1 73 = .ok (.bipush (-5), 2) := by decide +kernel
theorem d_HB_looked_75 : decode M_HB_looked.2.1 75 = .ok (.ireturn, 1) := by decide +kernel
theorem d_HB_looked_16 : decode M_HB_looked.2.1 16 = .ok (.aload_n 0, 1) := by decide +kernel
theorem d_HB_looked_17 : decode M_HB_looked.2.1 17 = .ok (.getfield 12, 3) := by decide +kernel
theorem d_HB_looked_20 : decode M_HB_looked.2.1 20 = .ok (.getfield 49, 3) := by decide +kernel
theorem d_HB_looked_23 : decode M_HB_looked.2.1 23 = .ok (.aload_n 0, 1) := by decide +kernel
theorem d_HB_looked_24 : decode M_HB_looked.2.1 24 = .ok (.getfield 12, 3) := by decide +kernel
theorem d_HB_looked_27 : decode M_HB_looked.2.1 27 = .ok (.getfield 217, 3) := by decide +kernel
theorem d_HB_looked_30 : decode M_HB_looked.2.1 30 = .ok (.iload_n 1, 1) := by decide +kernel
theorem d_HB_looked_31 : decode M_HB_looked.2.1 31 = .ok (.iconst 0, 1) := by decide +kernel
theorem d_HB_looked_32 : decode M_HB_looked.2.1 32 = .ok (.invokevirtual 186, 3) := by decide +kernel
theorem ln_HB_186 : Cond.methodLink "HandshakeBinds" 186 M_Rws_cell.1 ∈ TB := inTB 665 (by decide +kernel) rfl
theorem d_HB_looked_35 : decode M_HB_looked.2.1 35 = .ok (.aload_n 0, 1) := by decide +kernel
theorem d_HB_looked_36 : decode M_HB_looked.2.1 36 = .ok (.getfield 12, 3) := by decide +kernel
theorem d_HB_looked_39 : decode M_HB_looked.2.1 39 = .ok (.getfield 217, 3) := by decide +kernel
theorem d_HB_looked_42 : decode M_HB_looked.2.1 42 = .ok (.iload_n 1, 1) := by decide +kernel
theorem d_HB_looked_43 : decode M_HB_looked.2.1 43 = .ok (.iconst 1, 1) := by decide +kernel
theorem d_HB_looked_44 : decode M_HB_looked.2.1 44 = .ok (.invokevirtual 186, 3) := by decide +kernel
theorem d_HB_looked_47 : decode M_HB_looked.2.1 47 = .ok (.invokevirtual 98, 3) := by decide +kernel
theorem d_HB_looked_50 : decode M_HB_looked.2.1 50 = .ok (.aload_n 0, 1) := by decide +kernel
theorem d_HB_looked_51 : decode M_HB_looked.2.1 51 = .ok (.getfield 12, 3) := by decide +kernel
theorem d_HB_looked_54 : decode M_HB_looked.2.1 54 = .ok (.getfield 217, 3) := by decide +kernel
theorem d_HB_looked_57 : decode M_HB_looked.2.1 57 = .ok (.iload_n 1, 1) := by decide +kernel
theorem d_HB_looked_58 : decode M_HB_looked.2.1 58 = .ok (.iconst 2, 1) := by decide +kernel
theorem d_HB_looked_59 : decode M_HB_looked.2.1 59 = .ok (.invokevirtual 186, 3) := by decide +kernel
theorem d_HB_looked_62 : decode M_HB_looked.2.1 62 = .ok (.if_icmp .eq 5, 3) := by decide +kernel
theorem d_HB_looked_67 : decode M_HB_looked.2.1 67 = .ok (.iinc 1 1, 3) := by decide +kernel
theorem d_HB_looked_70 : decode M_HB_looked.2.1 70 = .ok (.goto (-68), 3) := by decide +kernel
theorem d_HB_looked_65 : decode M_HB_looked.2.1 65 = .ok (.iload_n 1, 1) := by decide +kernel
theorem d_HB_looked_66 : decode M_HB_looked.2.1 66 = .ok (.ireturn, 1) := by decide +kernel
theorem c_HB_isTrader (X : Xn) (a : Nat → Nat) (ν : Nat → Nat → Nat) (σ : Nat → Nat → Int32) (τ : Nat → Nat → Int64)  (p : Int32) (hn6 : ν 2 3 ≤ 6) : Does X 1 M_HB_isTrader [.ref (a 0), .int p] (CW X a ν σ τ) 0 0 (fun (vv : Option Value) (ww : va_W) => vv = some (.int (bI (isB (ν 2 3) p))) ∧ ww = CW X a ν σ τ) := by
  generalize hQ : (fun (vv : Option Value) (ww : va_W) => vv = some (.int (bI (isB (ν 2 3) p))) ∧ ww = CW X a ν σ τ) = Q
  refine Does.go rfl (Nat.le_of_ble_eq_true rfl) [some (.ref (a 0)), some (.int p)] 0 rfl ?_
  refine r_iload_n rfl 1 rfl d_HB_isTrader_0 ?_
  refine r_if_lt 4 22 rfl rfl d_HB_isTrader_1 (fun h1 => ?_) (fun h1 => ?_)
  · refine r_iconst (nI 0) rfl 23 rfl d_HB_isTrader_22 ?_
    exact r_zret rfl (rfl) (Nat.zero_le _) (Nat.zero_le _) d_HB_isTrader_23 (by rw [← hQ]; exact ⟨vB_f (isT_f1 h1), rfl⟩)
  · refine r_iload_n rfl 5 rfl d_HB_isTrader_4 ?_
    refine r_aload_n rfl 6 rfl d_HB_isTrader_5 ?_
    refine r_getf (v := .ref (a 1)) gf_HB_12 0 rfl rfl 9 rfl d_HB_isTrader_6 ?_
    refine r_getfn (v := .ref (a 2)) gf_HB_49 1 rfl rfl 12 rfl d_HB_isTrader_9 ?_
    refine r_getfn (v := .int (nI (ν 2 3))) gf_HB_52 2 rfl rfl 15 rfl d_HB_isTrader_12 ?_
    refine r_icmp_ge 18 22 rfl rfl d_HB_isTrader_15 (fun h15 => ?_) (fun h15 => ?_)
    · refine r_iconst (nI 0) rfl 23 rfl d_HB_isTrader_22 ?_
      exact r_zret rfl (rfl) (Nat.zero_le _) (Nat.zero_le _) d_HB_isTrader_23 (by rw [← hQ]; exact ⟨vB_f (isT_f2 hn6 h15), rfl⟩)
    · refine r_iconst (nI 1) rfl 19 rfl d_HB_isTrader_18 ?_
      refine r_goto 23 rfl d_HB_isTrader_19 ?_
      exact r_zret rfl (rfl) (Nat.zero_le _) (Nat.zero_le _) d_HB_isTrader_23 (by rw [← hQ]; exact ⟨vB_t (isT_t hn6 h1 h15), rfl⟩)
theorem c_HB_refusedPair (X : Xn) (a : Nat → Nat) (ν : Nat → Nat → Nat) (σ : Nat → Nat → Int32) (τ : Nat → Nat → Int64)  (p : Int32) (q : Int32) (hn6 : ν 2 3 ≤ 6) : Does X 2 M_HB_refusedPair [.ref (a 0), .int p, .int q] (CW X a ν σ τ) 0 0 (fun (vv : Option Value) (ww : va_W) => vv = some (.int (rpV (ν 2 3) p q)) ∧ ww = CW X a ν σ τ) := by
  generalize hQ : (fun (vv : Option Value) (ww : va_W) => vv = some (.int (rpV (ν 2 3) p q)) ∧ ww = CW X a ν σ τ) = Q
  refine Does.go rfl (Nat.le_of_ble_eq_true rfl) [some (.ref (a 0)), some (.int p), some (.int q)] 0 rfl ?_
  refine r_aload_n rfl 1 rfl d_HB_refusedPair_0 ?_
  refine r_iload_n rfl 2 rfl d_HB_refusedPair_1 ?_
  refine r_callVA1 (st2 := [.int (bI (isB (ν 2 3) p))]) (w2 := CW X a ν σ τ) lk_HB_isTrader ln_HB_60 (c_HB_isTrader X a ν σ τ  p (hn6)) (by first | decide | omega) rfl rfl (Nat.le_of_ble_eq_true rfl) (Nat.le_of_ble_eq_true rfl) (Nat.le_of_ble_eq_true rfl) 0 rfl rfl rfl rfl 5 rfl d_HB_refusedPair_2 ?_
  refine r_if_eqB 8 16 rfl rfl d_HB_refusedPair_5 (fun h5 => ?_) (fun h5 => ?_)
  · refine r_iconst ((-1)) rfl 17 rfl d_HB_refusedPair_16 ?_
    exact r_iret rfl (Nat.zero_le _) (Nat.zero_le _) d_HB_refusedPair_17 (by rw [← hQ]; exact ⟨by simp [rpV, h5], rfl⟩)
  · refine r_aload_n rfl 9 rfl d_HB_refusedPair_8 ?_
    refine r_iload_n rfl 10 rfl d_HB_refusedPair_9 ?_
    refine r_callVA1 (st2 := [.int (bI (isB (ν 2 3) q))]) (w2 := CW X a ν σ τ) lk_HB_isTrader ln_HB_60 (c_HB_isTrader X a ν σ τ  q (hn6)) (by first | decide | omega) rfl rfl (Nat.le_of_ble_eq_true rfl) (Nat.le_of_ble_eq_true rfl) (Nat.le_of_ble_eq_true rfl) 0 rfl rfl rfl rfl 13 rfl d_HB_refusedPair_10 ?_
    refine r_if_neB 16 18 rfl rfl d_HB_refusedPair_13 (fun h13 => ?_) (fun h13 => ?_)
    · refine r_iload_n rfl 19 rfl d_HB_refusedPair_18 ?_
      refine r_iload_n rfl 20 rfl d_HB_refusedPair_19 ?_
      refine r_icmp_ne 23 28 rfl rfl d_HB_refusedPair_20 (fun h20 => ?_) (fun h20 => ?_)
      · refine r_iconst (nI 0) rfl 29 rfl d_HB_refusedPair_28 ?_
        exact r_iret rfl (Nat.zero_le _) (Nat.zero_le _) d_HB_refusedPair_29 (by rw [← hQ]; exact ⟨by simp [rpV, h5, h13, h20], rfl⟩)
      · refine r_bipush ((-2)) rfl 25 rfl d_HB_refusedPair_23 ?_
        refine r_goto 29 rfl d_HB_refusedPair_25 ?_
        exact r_iret rfl (Nat.zero_le _) (Nat.zero_le _) d_HB_refusedPair_29 (by rw [← hQ]; exact ⟨by simp [rpV, h5, h13, h20], rfl⟩)
    · refine r_iconst ((-1)) rfl 17 rfl d_HB_refusedPair_16 ?_
      exact r_iret rfl (Nat.zero_le _) (Nat.zero_le _) d_HB_refusedPair_17 (by rw [← hQ]; exact ⟨by simp [rpV, h5, h13], rfl⟩)
theorem c_HB_owe (X : Xn) (a : Nat → Nat) (ν : Nat → Nat → Nat) (σ : Nat → Nat → Int32) (τ : Nat → Nat → Int64)  (p : Int32) (q : Int32) (x : Int32) (hn6 : ν 2 3 ≤ 6) : Does X 3 M_HB_owe [.ref (a 0), .int p, .int q, .int x] (CW X a ν σ τ) 0 0 (fun (vv : Option Value) (ww : va_W) => vv = some (.int (R_owe (ν 2 3) (σ 4) p q x)) ∧ ww = CW X a ν (if b_owe (ν 2 3) p q x = true then u2 σ 4 (upd (σ 4) (6 * cn p + cn q) x) else σ) τ) := by
  generalize hQ : (fun (vv : Option Value) (ww : va_W) => vv = some (.int (R_owe (ν 2 3) (σ 4) p q x)) ∧ ww = CW X a ν (if b_owe (ν 2 3) p q x = true then u2 σ 4 (upd (σ 4) (6 * cn p + cn q) x) else σ) τ) = Q
  refine Does.go rfl (Nat.le_of_ble_eq_true rfl) [some (.ref (a 0)), some (.int p), some (.int q), some (.int x), none, none] 2 rfl ?_
  refine r_aload_n rfl 1 rfl d_HB_owe_0 ?_
  refine r_iload_n rfl 2 rfl d_HB_owe_1 ?_
  refine r_iload_n rfl 3 rfl d_HB_owe_2 ?_
  refine r_callVA1 (st2 := [.int (rpV (ν 2 3) p q)]) (w2 := CW X a ν σ τ) lk_HB_refusedPair ln_HB_95 (c_HB_refusedPair X a ν σ τ  p q (hn6)) (by first | decide | omega) rfl rfl (Nat.le_of_ble_eq_true rfl) (Nat.le_of_ble_eq_true rfl) (Nat.le_of_ble_eq_true rfl) 0 rfl rfl rfl rfl 6 rfl d_HB_owe_3 ?_
  refine r_istore (ls2 := [some (.ref (a 0)), some (.int p), some (.int q), some (.int x), some (.int (rpV (ν 2 3) p q)), none]) 8 rfl d_HB_owe_6 (by decide) rfl rfl ?_
  refine r_iload rfl 10 rfl d_HB_owe_8 ?_
  refine r_if_eq 13 16 rfl rfl d_HB_owe_10 (fun h10 => ?_) (fun h10 => ?_)
  · obtain ⟨pN, qN, hpN, hqN, hne, rfl, rfl⟩ := rpV_0 hn6 h10
    have epN : cn (nI pN) = pN := cn_nI (by omega)
    have eqN : cn (nI qN) = qN := cn_nI (by omega)
    have bpq := rpV_b hn6 hpN hqN
    have bp := isB_of hn6 hpN
    have bq := isB_of hn6 hqN
    have hnI := nI_ne (by omega) (by omega) hne
    have mpN : ¬ nI pN = -1 := m1n (by omega)
    refine r_iload_n rfl 17 rfl d_HB_owe_16 ?_
    refine r_if_lt 20 27 rfl rfl d_HB_owe_17 (fun h17 => ?_) (fun h17 => ?_)
    · have r_x : inR x (nI 0) (nI 9999) = false := inR_lt h17
      refine r_bipush ((-2)) rfl 29 rfl d_HB_owe_27 ?_
      exact r_iret rfl (Nat.zero_le _) (Nat.zero_le _) d_HB_owe_29 (by rw [← hQ]; exact ⟨by simp [R_owe, epN, eqN, bp, bq, hnI, mpN, h17, r_x], by simp [b_owe, epN, eqN, bp, bq, hnI, mpN, h17, r_x]⟩)
    · refine r_iload_n rfl 21 rfl d_HB_owe_20 ?_
      refine r_sipush (nI 9999) rfl 24 rfl d_HB_owe_21 ?_
      refine r_icmp_le 27 30 rfl rfl d_HB_owe_24 (fun h24 => ?_) (fun h24 => ?_)
      · have r_x : inR x (nI 0) (nI 9999) = true := inR_in h17 (Int32.not_lt.mpr h24)
        refine r_aload_n rfl 31 rfl d_HB_owe_30 ?_
        refine r_getf (v := .ref (a 1)) gf_HB_12 0 rfl rfl 34 rfl d_HB_owe_31 ?_
        refine r_getfn (v := .ref (a 2)) gf_HB_49 1 rfl rfl 37 rfl d_HB_owe_34 ?_
        refine r_iload_n rfl 38 rfl d_HB_owe_37 ?_
        refine r_iload_n rfl 39 rfl d_HB_owe_38 ?_
        refine r_callV1 (st2 := [.int ((σ 4) (6 * pN + qN))]) (w2 := CW X a ν σ τ) lk_Led_debt ln_HB_98 (c_Led_debt X (pl [2, 3, 4, 5] a) (pl [2, 3, 4, 5] ν) (pl [2, 3, 4, 5] σ) (pl [2, 3, 4, 5] τ)  pN qN (by omega) (by omega)) (by first | decide | omega) rfl rfl (Nat.le_of_ble_eq_true rfl) (Nat.le_of_ble_eq_true rfl) (Nat.le_of_ble_eq_true rfl) [2, 3, 4, 5] rfl rfl 0 rfl rfl rfl rfl rfl 42 rfl d_HB_owe_39 ?_
        refine r_istore (ls2 := [some (.ref (a 0)), some (.int (nI pN)), some (.int (nI qN)), some (.int x), some (.int (rpV (ν 2 3) (nI pN) (nI qN))), some (.int ((σ 4) (6 * pN + qN)))]) 44 rfl d_HB_owe_42 (by decide) rfl rfl ?_
        refine r_aload_n rfl 45 rfl d_HB_owe_44 ?_
        refine r_getf (v := .ref (a 1)) gf_HB_12 0 rfl rfl 48 rfl d_HB_owe_45 ?_
        refine r_getfn (v := .ref (a 2)) gf_HB_49 1 rfl rfl 51 rfl d_HB_owe_48 ?_
        refine r_iload_n rfl 52 rfl d_HB_owe_51 ?_
        refine r_iload_n rfl 53 rfl d_HB_owe_52 ?_
        refine r_iload_n rfl 54 rfl d_HB_owe_53 ?_
        refine r_callV1 (st2 := []) (w2 := CW X a ν (u2 σ 4 (upd (σ 4) (6 * pN + qN) x)) τ) lk_Led_setDebt ln_HB_101 (c_Led_setDebt X (pl [2, 3, 4, 5] a) (pl [2, 3, 4, 5] ν) (pl [2, 3, 4, 5] σ) (pl [2, 3, 4, 5] τ)  pN qN x (by omega) (by omega)) (by first | decide | omega) rfl rfl (Nat.le_of_ble_eq_true rfl) (Nat.le_of_ble_eq_true rfl) (Nat.le_of_ble_eq_true rfl) [2, 3, 4, 5] rfl rfl 0 rfl rfl rfl rfl rfl 57 rfl d_HB_owe_54 ?_
        refine r_iload rfl 59 rfl d_HB_owe_57 ?_
        exact r_iret rfl (Nat.zero_le _) (Nat.zero_le _) d_HB_owe_59 (by rw [← hQ]; exact ⟨by simp [R_owe, epN, eqN, bp, bq, hnI, mpN, h17, h24, r_x], by simp [b_owe, epN, eqN, bp, bq, hnI, mpN, h17, h24, r_x]⟩)
      · have r_x : inR x (nI 0) (nI 9999) = false := inR_gt (Int32.not_le.mp h24)
        refine r_bipush ((-2)) rfl 29 rfl d_HB_owe_27 ?_
        exact r_iret rfl (Nat.zero_le _) (Nat.zero_le _) d_HB_owe_29 (by rw [← hQ]; exact ⟨by simp [R_owe, epN, eqN, bp, bq, hnI, mpN, h17, h24, r_x], by simp [b_owe, epN, eqN, bp, bq, hnI, mpN, h17, h24, r_x]⟩)
  · have pair : ¬ rpV (ν 2 3) p q = 0 := h10
    refine r_iload rfl 15 rfl d_HB_owe_13 ?_
    exact r_iret rfl (Nat.zero_le _) (Nat.zero_le _) d_HB_owe_15 (by rw [← hQ]; exact ⟨by rw [R_owe, rpE, if_neg pair], by rw [if_neg (fun z => by rw [b_owe, b_pair_f pair] at z; cases z)]⟩)
theorem c_HB_purse (X : Xn) (a : Nat → Nat) (ν : Nat → Nat → Nat) (σ : Nat → Nat → Int32) (τ : Nat → Nat → Int64)  (p : Int32) (x : Int32) (hn6 : ν 2 3 ≤ 6) : Does X 2 M_HB_purse [.ref (a 0), .int p, .int x] (CW X a ν σ τ) 0 0 (fun (vv : Option Value) (ww : va_W) => vv = some (.int (R_purse (ν 2 3) (σ 3) p x)) ∧ ww = CW X a ν (if b_purse (ν 2 3) p x = true then u2 σ 3 (upd (σ 3) (cn p) x) else σ) τ) := by
  generalize hQ : (fun (vv : Option Value) (ww : va_W) => vv = some (.int (R_purse (ν 2 3) (σ 3) p x)) ∧ ww = CW X a ν (if b_purse (ν 2 3) p x = true then u2 σ 3 (upd (σ 3) (cn p) x) else σ) τ) = Q
  refine Does.go rfl (Nat.le_of_ble_eq_true rfl) [some (.ref (a 0)), some (.int p), some (.int x), none] 1 rfl ?_
  refine r_aload_n rfl 1 rfl d_HB_purse_0 ?_
  refine r_iload_n rfl 2 rfl d_HB_purse_1 ?_
  refine r_callVA1 (st2 := [.int (bI (isB (ν 2 3) p))]) (w2 := CW X a ν σ τ) lk_HB_isTrader ln_HB_60 (c_HB_isTrader X a ν σ τ  p (hn6)) (by first | decide | omega) rfl rfl (Nat.le_of_ble_eq_true rfl) (Nat.le_of_ble_eq_true rfl) (Nat.le_of_ble_eq_true rfl) 0 rfl rfl rfl rfl 5 rfl d_HB_purse_2 ?_
  refine r_if_neB 8 10 rfl rfl d_HB_purse_5 (fun h5 => ?_) (fun h5 => ?_)
  · obtain ⟨pN, hpN, rfl⟩ := isB_t hn6 h5
    have epN : cn (nI pN) = pN := cn_nI (by omega)
    have bp := isB_of hn6 hpN
    refine r_iload_n rfl 11 rfl d_HB_purse_10 ?_
    refine r_if_lt 14 21 rfl rfl d_HB_purse_11 (fun h11 => ?_) (fun h11 => ?_)
    · have r_x : inR x (nI 0) (nI 9999) = false := inR_lt h11
      refine r_bipush ((-2)) rfl 23 rfl d_HB_purse_21 ?_
      exact r_iret rfl (Nat.zero_le _) (Nat.zero_le _) d_HB_purse_23 (by rw [← hQ]; exact ⟨by simp [R_purse, epN, bp, h11, r_x], by simp [b_purse, epN, bp, h11, r_x]⟩)
    · refine r_iload_n rfl 15 rfl d_HB_purse_14 ?_
      refine r_sipush (nI 9999) rfl 18 rfl d_HB_purse_15 ?_
      refine r_icmp_le 21 24 rfl rfl d_HB_purse_18 (fun h18 => ?_) (fun h18 => ?_)
      · have r_x : inR x (nI 0) (nI 9999) = true := inR_in h11 (Int32.not_lt.mpr h18)
        refine r_aload_n rfl 25 rfl d_HB_purse_24 ?_
        refine r_getf (v := .ref (a 1)) gf_HB_12 0 rfl rfl 28 rfl d_HB_purse_25 ?_
        refine r_getfn (v := .ref (a 2)) gf_HB_49 1 rfl rfl 31 rfl d_HB_purse_28 ?_
        refine r_getfn (v := .ref (a 3)) gf_HB_76 2 rfl rfl 34 rfl d_HB_purse_31 ?_
        refine r_iload_n rfl 35 rfl d_HB_purse_34 ?_
        refine r_callS1 (st2 := [.int (σ 3 pN)]) (w2 := CW X a ν σ τ) lk_HB_at ln_HB_69 (c_at X _ 6 pN (σ 3) (by omega) (by decide)) (by first | decide | omega) rfl rfl (Nat.le_of_ble_eq_true rfl) (Nat.le_of_ble_eq_true rfl) (Nat.le_of_ble_eq_true rfl) [3] rfl rfl rfl rfl rfl 38 rfl d_HB_purse_35 ?_
        refine r_istore_n (ls2 := [some (.ref (a 0)), some (.int (nI pN)), some (.int x), some (.int (σ 3 pN))]) 39 rfl d_HB_purse_38 (by decide) rfl rfl ?_
        refine r_aload_n rfl 40 rfl d_HB_purse_39 ?_
        refine r_getf (v := .ref (a 1)) gf_HB_12 0 rfl rfl 43 rfl d_HB_purse_40 ?_
        refine r_getfn (v := .ref (a 2)) gf_HB_49 1 rfl rfl 46 rfl d_HB_purse_43 ?_
        refine r_getfn (v := .ref (a 3)) gf_HB_76 2 rfl rfl 49 rfl d_HB_purse_46 ?_
        refine r_iload_n rfl 50 rfl d_HB_purse_49 ?_
        refine r_iload_n rfl 51 rfl d_HB_purse_50 ?_
        refine r_callS1 (st2 := []) (w2 := CW X a ν (u2 σ 3 (upd (σ 3) pN x)) τ) lk_HB_put ln_HB_105 (c_put X _ 6 pN x (σ 3) (by omega) (by decide)) (by first | decide | omega) rfl rfl (Nat.le_of_ble_eq_true rfl) (Nat.le_of_ble_eq_true rfl) (Nat.le_of_ble_eq_true rfl) [3] rfl rfl rfl rfl rfl 54 rfl d_HB_purse_51 ?_
        refine r_iload_n rfl 55 rfl d_HB_purse_54 ?_
        exact r_iret rfl (Nat.zero_le _) (Nat.zero_le _) d_HB_purse_55 (by rw [← hQ]; exact ⟨by simp [R_purse, epN, bp, h11, h18, r_x], by simp [b_purse, epN, bp, h11, h18, r_x]⟩)
      · have r_x : inR x (nI 0) (nI 9999) = false := inR_gt (Int32.not_le.mp h18)
        refine r_bipush ((-2)) rfl 23 rfl d_HB_purse_21 ?_
        exact r_iret rfl (Nat.zero_le _) (Nat.zero_le _) d_HB_purse_23 (by rw [← hQ]; exact ⟨by simp [R_purse, epN, bp, h11, h18, r_x], by simp [b_purse, epN, bp, h11, h18, r_x]⟩)
  · refine r_iconst ((-1)) rfl 9 rfl d_HB_purse_8 ?_
    exact r_iret rfl (Nat.zero_le _) (Nat.zero_le _) d_HB_purse_9 (by rw [← hQ]; exact ⟨by simp [R_purse, h5], by simp [b_purse, h5]⟩)
theorem c_HB_row (X : Xn) (a : Nat → Nat) (ν : Nat → Nat → Nat) (σ : Nat → Nat → Int32) (τ : Nat → Nat → Int64)  (p : Int32) (k : Int32) (x : Int32) (hn6 : ν 2 3 ≤ 6) : Does X 2 M_HB_row [.ref (a 0), .int p, .int k, .int x] (CW X a ν σ τ) 0 0 (fun (vv : Option Value) (ww : va_W) => vv = some (.int (R_row (ν 2 3) (σ 6) (σ 8) p k x)) ∧ ww = CW X a ν (if b_row (ν 2 3) (σ 6) p k x = true then u2 σ 8 (upd (σ 8) (4 * cn p + cn k) x) else σ) τ) := by
  generalize hQ : (fun (vv : Option Value) (ww : va_W) => vv = some (.int (R_row (ν 2 3) (σ 6) (σ 8) p k x)) ∧ ww = CW X a ν (if b_row (ν 2 3) (σ 6) p k x = true then u2 σ 8 (upd (σ 8) (4 * cn p + cn k) x) else σ) τ) = Q
  refine Does.go rfl (Nat.le_of_ble_eq_true rfl) [some (.ref (a 0)), some (.int p), some (.int k), some (.int x), none, none] 2 rfl ?_
  refine r_aload_n rfl 1 rfl d_HB_row_0 ?_
  refine r_iload_n rfl 2 rfl d_HB_row_1 ?_
  refine r_callVA1 (st2 := [.int (bI (isB (ν 2 3) p))]) (w2 := CW X a ν σ τ) lk_HB_isTrader ln_HB_60 (c_HB_isTrader X a ν σ τ  p (hn6)) (by first | decide | omega) rfl rfl (Nat.le_of_ble_eq_true rfl) (Nat.le_of_ble_eq_true rfl) (Nat.le_of_ble_eq_true rfl) 0 rfl rfl rfl rfl 5 rfl d_HB_row_2 ?_
  refine r_if_eqB 8 17 rfl rfl d_HB_row_5 (fun h5 => ?_) (fun h5 => ?_)
  · refine r_iconst ((-1)) rfl 18 rfl d_HB_row_17 ?_
    exact r_iret rfl (Nat.zero_le _) (Nat.zero_le _) d_HB_row_18 (by rw [← hQ]; exact ⟨by simp [R_row, h5], by simp [b_row, h5]⟩)
  · obtain ⟨pN, hpN, rfl⟩ := isB_t hn6 h5
    have epN : cn (nI pN) = pN := cn_nI (by omega)
    have bp := isB_of hn6 hpN
    refine r_iload_n rfl 9 rfl d_HB_row_8 ?_
    refine r_if_lt 12 17 rfl rfl d_HB_row_9 (fun h9 => ?_) (fun h9 => ?_)
    · have r_k : inR k (nI 0) (nI 3) = false := inR_lt h9
      refine r_iconst ((-1)) rfl 18 rfl d_HB_row_17 ?_
      exact r_iret rfl (Nat.zero_le _) (Nat.zero_le _) d_HB_row_18 (by rw [← hQ]; exact ⟨by simp [R_row, epN, bp, h9, r_k], by simp [b_row, epN, bp, h9, r_k]⟩)
    · refine r_iload_n rfl 13 rfl d_HB_row_12 ?_
      refine r_iconst (nI 4) rfl 14 rfl d_HB_row_13 ?_
      refine r_icmp_lt 17 19 rfl rfl d_HB_row_14 (fun h14 => ?_) (fun h14 => ?_)
      · have r_k : inR k (nI 0) (nI 3) = true := inR_l1 (by decide) h9 h14
        obtain ⟨kN, hkN, rfl⟩ := inR_t (by decide) r_k
        have ekN : cn (nI kN) = kN := cn_nI (by omega)
        refine r_iload_n rfl 20 rfl d_HB_row_19 ?_
        refine r_if_lt 23 29 rfl rfl d_HB_row_20 (fun h20 => ?_) (fun h20 => ?_)
        · have r_x : inR x (nI 0) (nI 9) = false := inR_lt h20
          refine r_bipush ((-2)) rfl 31 rfl d_HB_row_29 ?_
          exact r_iret rfl (Nat.zero_le _) (Nat.zero_le _) d_HB_row_31 (by rw [← hQ]; exact ⟨by simp [R_row, epN, bp, r_k, ekN, h20, r_x], by simp [b_row, epN, bp, r_k, ekN, h20, r_x]⟩)
        · refine r_iload_n rfl 24 rfl d_HB_row_23 ?_
          refine r_bipush (nI 9) rfl 26 rfl d_HB_row_24 ?_
          refine r_icmp_le 29 32 rfl rfl d_HB_row_26 (fun h26 => ?_) (fun h26 => ?_)
          · have r_x : inR x (nI 0) (nI 9) = true := inR_in h20 (Int32.not_lt.mpr h26)
            refine r_aload_n rfl 33 rfl d_HB_row_32 ?_
            refine r_getf (v := .ref (a 1)) gf_HB_12 0 rfl rfl 36 rfl d_HB_row_33 ?_
            refine r_getfn (v := .ref (a 6)) gf_HB_65 1 rfl rfl 39 rfl d_HB_row_36 ?_
            refine r_iload_n rfl 40 rfl d_HB_row_39 ?_
            refine r_callS1 (st2 := [.int (σ 6 pN)]) (w2 := CW X a ν σ τ) lk_HB_at ln_HB_69 (c_at X _ 6 pN (σ 6) (by omega) (by decide)) (by first | decide | omega) rfl rfl (Nat.le_of_ble_eq_true rfl) (Nat.le_of_ble_eq_true rfl) (Nat.le_of_ble_eq_true rfl) [6] rfl rfl rfl rfl rfl 43 rfl d_HB_row_40 ?_
            refine r_bipush (nI 6) rfl 45 rfl d_HB_row_43 ?_
            refine r_icmp_eq 48 51 rfl rfl d_HB_row_45 (fun h45 => ?_) (fun h45 => ?_)
            · refine r_iload_n rfl 52 rfl d_HB_row_51 ?_
              refine r_iconst (nI 4) rfl 53 rfl d_HB_row_52 ?_
              refine r_imul 54 rfl d_HB_row_53 ?_
              refine r_topi (nI (pN * 4)) (pk_mul _ _) ?_
              refine r_iload_n rfl 55 rfl d_HB_row_54 ?_
              refine r_iadd 56 rfl d_HB_row_55 ?_
              refine r_topi (nI ((pN * 4) + kN)) (nI_add _ _) ?_
              refine r_topi (nI (4 * pN + kN)) (by rw [Nat.mul_comm]) ?_
              refine r_istore (ls2 := [some (.ref (a 0)), some (.int (nI pN)), some (.int (nI kN)), some (.int x), some (.int (nI (4 * pN + kN))), none]) 58 rfl d_HB_row_56 (by decide) rfl rfl ?_
              refine r_aload_n rfl 59 rfl d_HB_row_58 ?_
              refine r_getf (v := .ref (a 1)) gf_HB_12 0 rfl rfl 62 rfl d_HB_row_59 ?_
              refine r_getfn (v := .ref (a 8)) gf_HB_139 1 rfl rfl 65 rfl d_HB_row_62 ?_
              refine r_iload rfl 67 rfl d_HB_row_65 ?_
              refine r_callS1 (st2 := [.int (σ 8 (4 * pN + kN))]) (w2 := CW X a ν σ τ) lk_HB_at ln_HB_69 (c_at X _ 24 (4 * pN + kN) (σ 8) (by omega) (by decide)) (by first | decide | omega) rfl rfl (Nat.le_of_ble_eq_true rfl) (Nat.le_of_ble_eq_true rfl) (Nat.le_of_ble_eq_true rfl) [8] rfl rfl rfl rfl rfl 70 rfl d_HB_row_67 ?_
              refine r_istore (ls2 := [some (.ref (a 0)), some (.int (nI pN)), some (.int (nI kN)), some (.int x), some (.int (nI (4 * pN + kN))), some (.int (σ 8 (4 * pN + kN)))]) 72 rfl d_HB_row_70 (by decide) rfl rfl ?_
              refine r_aload_n rfl 73 rfl d_HB_row_72 ?_
              refine r_getf (v := .ref (a 1)) gf_HB_12 0 rfl rfl 76 rfl d_HB_row_73 ?_
              refine r_getfn (v := .ref (a 8)) gf_HB_139 1 rfl rfl 79 rfl d_HB_row_76 ?_
              refine r_iload rfl 81 rfl d_HB_row_79 ?_
              refine r_iload_n rfl 82 rfl d_HB_row_81 ?_
              refine r_callS1 (st2 := []) (w2 := CW X a ν (u2 σ 8 (upd (σ 8) (4 * pN + kN) x)) τ) lk_HB_put ln_HB_105 (c_put X _ 24 (4 * pN + kN) x (σ 8) (by omega) (by decide)) (by first | decide | omega) rfl rfl (Nat.le_of_ble_eq_true rfl) (Nat.le_of_ble_eq_true rfl) (Nat.le_of_ble_eq_true rfl) [8] rfl rfl rfl rfl rfl 85 rfl d_HB_row_82 ?_
              refine r_iload rfl 87 rfl d_HB_row_85 ?_
              exact r_iret rfl (Nat.zero_le _) (Nat.zero_le _) d_HB_row_87 (by rw [← hQ]; exact ⟨by simp [R_row, epN, bp, r_k, ekN, h20, h26, r_x, h45], by simp [b_row, epN, bp, r_k, ekN, h20, h26, r_x, h45]⟩)
            · refine r_bipush ((-3)) rfl 50 rfl d_HB_row_48 ?_
              exact r_iret rfl (Nat.zero_le _) (Nat.zero_le _) d_HB_row_50 (by rw [← hQ]; exact ⟨by simp [R_row, epN, bp, r_k, ekN, h20, h26, r_x, h45], by simp [b_row, epN, bp, r_k, ekN, h20, h26, r_x, h45]⟩)
          · have r_x : inR x (nI 0) (nI 9) = false := inR_gt (Int32.not_le.mp h26)
            refine r_bipush ((-2)) rfl 31 rfl d_HB_row_29 ?_
            exact r_iret rfl (Nat.zero_le _) (Nat.zero_le _) d_HB_row_31 (by rw [← hQ]; exact ⟨by simp [R_row, epN, bp, r_k, ekN, h20, h26, r_x], by simp [b_row, epN, bp, r_k, ekN, h20, h26, r_x]⟩)
      · have r_k : inR k (nI 0) (nI 3) = false := inR_g1 (by decide) h14
        refine r_iconst ((-1)) rfl 18 rfl d_HB_row_17 ?_
        exact r_iret rfl (Nat.zero_le _) (Nat.zero_le _) d_HB_row_18 (by rw [← hQ]; exact ⟨by simp [R_row, epN, bp, h9, h14, r_k], by simp [b_row, epN, bp, h9, h14, r_k]⟩)
theorem c_HB_pass (X : Xn) (a : Nat → Nat) (ν : Nat → Nat → Nat) (σ : Nat → Nat → Int32) (τ : Nat → Nat → Int64)  (x : Int32) (hd : ν 1 9 ≤ 9999) : Does X 1 M_HB_pass [.ref (a 0), .int x] (CW X a ν σ τ) 0 0 (fun (vv : Option Value) (ww : va_W) => vv = some (.int (R_pass (ν 1 9) x)) ∧ ww = CW X a (if b_pass (ν 1 9) x = true then pu ν 1 (u1 (ν 1) 9 (ν 1 9 + cn x)) else ν) σ τ) := by
  generalize hQ : (fun (vv : Option Value) (ww : va_W) => vv = some (.int (R_pass (ν 1 9) x)) ∧ ww = CW X a (if b_pass (ν 1 9) x = true then pu ν 1 (u1 (ν 1) 9 (ν 1 9 + cn x)) else ν) σ τ) = Q
  refine Does.go rfl (Nat.le_of_ble_eq_true rfl) [some (.ref (a 0)), some (.int x)] 0 rfl ?_
  refine r_iload_n rfl 1 rfl d_HB_pass_0 ?_
  refine r_if_lt 4 10 rfl rfl d_HB_pass_1 (fun h1 => ?_) (fun h1 => ?_)
  · have r_x : inR x (nI 0) (nI 60) = false := inR_lt h1
    refine r_bipush ((-2)) rfl 12 rfl d_HB_pass_10 ?_
    exact r_iret rfl (Nat.zero_le _) (Nat.zero_le _) d_HB_pass_12 (by rw [← hQ]; exact ⟨by simp [R_pass, h1, r_x], by simp [b_pass, h1, r_x]⟩)
  · refine r_iload_n rfl 5 rfl d_HB_pass_4 ?_
    refine r_bipush (nI 60) rfl 7 rfl d_HB_pass_5 ?_
    refine r_icmp_le 10 13 rfl rfl d_HB_pass_7 (fun h7 => ?_) (fun h7 => ?_)
    · have r_x : inR x (nI 0) (nI 60) = true := inR_in h1 (Int32.not_lt.mpr h7)
      obtain ⟨xN, hxN, rfl⟩ := inR_t (by decide) r_x
      have exN : cn (nI xN) = xN := cn_nI (by omega)
      refine r_aload_n rfl 14 rfl d_HB_pass_13 ?_
      refine r_getf (v := .ref (a 1)) gf_HB_12 0 rfl rfl 17 rfl d_HB_pass_14 ?_
      refine r_getfn (v := .int (nI (ν 1 9))) gf_HB_113 1 rfl rfl 20 rfl d_HB_pass_17 ?_
      refine r_iload_n rfl 21 rfl d_HB_pass_20 ?_
      refine r_iadd 22 rfl d_HB_pass_21 ?_
      refine r_topi (nI ((ν 1 9) + xN)) (nI_add _ _) ?_
      refine r_sipush (nI 9999) rfl 25 rfl d_HB_pass_22 ?_
      refine r_icmp_leN ((ν 1 9) + xN) 9999 (by omega) (by omega) 28 31 rfl rfl d_HB_pass_25 (fun h25 => ?_) (fun h25 => ?_)
      · have n25 : ¬ 9999 < ν 1 9 + xN := by omega
        refine r_aload_n rfl 32 rfl d_HB_pass_31 ?_
        refine r_getf (v := .ref (a 1)) gf_HB_12 0 rfl rfl 35 rfl d_HB_pass_32 ?_
        refine r_dup rfl 36 rfl d_HB_pass_35 ?_
        refine r_getfn (v := .int (nI (ν 1 9))) gf_HB_113 1 rfl rfl 39 rfl d_HB_pass_36 ?_
        refine r_iload_n rfl 40 rfl d_HB_pass_39 ?_
        refine r_iadd 41 rfl d_HB_pass_40 ?_
        refine r_topi (nI ((ν 1 9) + xN)) (nI_add _ _) ?_
        refine r_putfn (w2 := CW X a (pu ν 1 (u1 (ν 1) 9 ((ν 1 9) + xN))) σ τ) pf_HB_113 1 rfl (rfl) rfl (Nat.le_of_ble_eq_true rfl) rfl 44 rfl d_HB_pass_41 ?_
        refine r_aload_n rfl 45 rfl d_HB_pass_44 ?_
        refine r_getf (v := .ref (a 1)) gf_HB_12 0 rfl rfl 48 rfl d_HB_pass_45 ?_
        refine r_getfn (v := .int (nI ((ν 1 9) + xN))) gf_HB_113 1 rfl rfl 51 rfl d_HB_pass_48 ?_
        exact r_iret rfl (Nat.zero_le _) (Nat.zero_le _) d_HB_pass_51 (by rw [← hQ]; exact ⟨by simp [R_pass, r_x, exN, h25, n25], by simp [b_pass, r_x, exN, h25, n25]⟩)
      · have n25 := Nat.not_le.mpr h25
        refine r_bipush ((-3)) rfl 30 rfl d_HB_pass_28 ?_
        exact r_iret rfl (Nat.zero_le _) (Nat.zero_le _) d_HB_pass_30 (by rw [← hQ]; exact ⟨by simp [R_pass, r_x, exN, h25, n25], by simp [b_pass, r_x, exN, h25, n25]⟩)
    · have r_x : inR x (nI 0) (nI 60) = false := inR_gt (Int32.not_le.mp h7)
      refine r_bipush ((-2)) rfl 12 rfl d_HB_pass_10 ?_
      exact r_iret rfl (Nat.zero_le _) (Nat.zero_le _) d_HB_pass_12 (by rw [← hQ]; exact ⟨by simp [R_pass, h1, h7, r_x], by simp [b_pass, h1, h7, r_x]⟩)
theorem c_Scr_append (X : Xn) (a : Nat → Nat) (ν : Nat → Nat → Nat) (σ : Nat → Nat → Int32) (τ : Nat → Nat → Int64)  (x : Int32) (hz : ν 0 3 < 100) : Does X 2 M_Scr_append [.ref (a 0), .int x] (ST X a ν σ τ) 0 0 (fun (vv : Option Value) (ww : va_W) => vv = some (.int (nI ((ν 0 3) + 1))) ∧ ww = ST X a (pu ν 0 (u1 (ν 0) 3 ((ν 0 3) + 1))) (u2 σ 1 (upd (σ 1) (ν 0 3) x)) τ) := by
  generalize hQ : (fun (vv : Option Value) (ww : va_W) => vv = some (.int (nI ((ν 0 3) + 1))) ∧ ww = ST X a (pu ν 0 (u1 (ν 0) 3 ((ν 0 3) + 1))) (u2 σ 1 (upd (σ 1) (ν 0 3) x)) τ) = Q
  refine Does.go rfl (Nat.le_of_ble_eq_true rfl) [some (.ref (a 0)), some (.int x)] 0 rfl ?_
  refine r_aload_n rfl 1 rfl d_Scr_append_0 ?_
  refine r_getf (v := .ref (a 1)) gf_Scr_9 0 rfl rfl 4 rfl d_Scr_append_1 ?_
  refine r_aload_n rfl 5 rfl d_Scr_append_4 ?_
  refine r_getf (v := .int (nI (ν 0 3))) gf_Scr_29 0 rfl rfl 8 rfl d_Scr_append_5 ?_
  refine r_iload_n rfl 9 rfl d_Scr_append_8 ?_
  refine r_callSn1 (st2 := []) (w2 := ST X a ν (u2 σ 1 (upd (σ 1) (ν 0 3) x)) τ) lk_HB_put ln_Scr_33 (c_put X _ 100 (ν 0 3) x (σ 1) (by omega) (by decide)) (by first | decide | omega) rfl rfl (Nat.le_of_ble_eq_true rfl) (Nat.le_of_ble_eq_true rfl) (Nat.le_of_ble_eq_true rfl) [1] rfl rfl rfl rfl rfl 12 rfl d_Scr_append_9 ?_
  refine r_aload_n rfl 13 rfl d_Scr_append_12 ?_
  refine r_dup rfl 14 rfl d_Scr_append_13 ?_
  refine r_getf (v := .int (nI (ν 0 3))) gf_Scr_29 0 rfl rfl 17 rfl d_Scr_append_14 ?_
  refine r_iconst (nI 1) rfl 18 rfl d_Scr_append_17 ?_
  refine r_iadd 19 rfl d_Scr_append_18 ?_
  refine r_topi (nI ((ν 0 3) + 1)) (nI_add _ _) ?_
  refine r_putf (w2 := ST X a (pu ν 0 (u1 (ν 0) 3 ((ν 0 3) + 1))) (u2 σ 1 (upd (σ 1) (ν 0 3) x)) τ) pf_Scr_29 0 rfl (rfl) rfl (Nat.le_of_ble_eq_true rfl) rfl 22 rfl d_Scr_append_19 ?_
  refine r_aload_n rfl 23 rfl d_Scr_append_22 ?_
  refine r_getf (v := .int (nI ((ν 0 3) + 1))) gf_Scr_29 0 rfl rfl 26 rfl d_Scr_append_23 ?_
  exact r_iret rfl (Nat.zero_le _) (Nat.zero_le _) d_Scr_append_26 (by rw [← hQ]; exact ⟨rfl, rfl⟩)
theorem c_HB_feed (X : Xn) (a : Nat → Nat) (ν : Nat → Nat → Nat) (σ : Nat → Nat → Int32) (τ : Nat → Nat → Int64)  (x : Int32) (ht : ν 37 3 ≤ 100) : Does X 3 M_HB_feed [.ref (a 0), .int x] (CW X a ν σ τ) 0 0 (fun (vv : Option Value) (ww : va_W) => vv = some (.int (R_feed (ν 37 3) x)) ∧ ww = CW X a (if b_feed (ν 37 3) x = true then pu ν 37 (u1 (ν 37) 3 (ν 37 3 + 1)) else ν) (if b_feed (ν 37 3) x = true then u2 σ 38 (upd (σ 38) (ν 37 3) x) else σ) τ) := by
  generalize hQ : (fun (vv : Option Value) (ww : va_W) => vv = some (.int (R_feed (ν 37 3) x)) ∧ ww = CW X a (if b_feed (ν 37 3) x = true then pu ν 37 (u1 (ν 37) 3 (ν 37 3 + 1)) else ν) (if b_feed (ν 37 3) x = true then u2 σ 38 (upd (σ 38) (ν 37 3) x) else σ) τ) = Q
  refine Does.go rfl (Nat.le_of_ble_eq_true rfl) [some (.ref (a 0)), some (.int x)] 0 rfl ?_
  refine r_iload_n rfl 1 rfl d_HB_feed_0 ?_
  refine r_if_lt 4 10 rfl rfl d_HB_feed_1 (fun h1 => ?_) (fun h1 => ?_)
  · have r_x : inR x (nI 0) (nI 127) = false := inR_lt h1
    refine r_bipush ((-2)) rfl 12 rfl d_HB_feed_10 ?_
    exact r_iret rfl (Nat.zero_le _) (Nat.zero_le _) d_HB_feed_12 (by rw [← hQ]; exact ⟨by simp [R_feed, h1, r_x], by simp [b_feed, h1, r_x]⟩)
  · refine r_iload_n rfl 5 rfl d_HB_feed_4 ?_
    refine r_bipush (nI 127) rfl 7 rfl d_HB_feed_5 ?_
    refine r_icmp_le 10 13 rfl rfl d_HB_feed_7 (fun h7 => ?_) (fun h7 => ?_)
    · have r_x : inR x (nI 0) (nI 127) = true := inR_in h1 (Int32.not_lt.mpr h7)
      refine r_aload_n rfl 14 rfl d_HB_feed_13 ?_
      refine r_getf (v := .ref (a 37)) gf_HB_31 0 rfl rfl 17 rfl d_HB_feed_14 ?_
      refine r_getfn (v := .int (nI (ν 37 3))) gf_HB_142 37 rfl rfl 20 rfl d_HB_feed_17 ?_
      refine r_bipush (nI 100) rfl 22 rfl d_HB_feed_20 ?_
      refine r_icmp_ltN (ν 37 3) 100 (by omega) (by omega) 25 28 rfl rfl d_HB_feed_22 (fun h22 => ?_) (fun h22 => ?_)
      · have n22 : ¬ ν 37 3 = 100 := by omega
        have hz : ν 37 3 < 100 := h22
        refine r_aload_n rfl 29 rfl d_HB_feed_28 ?_
        refine r_getf (v := .ref (a 37)) gf_HB_31 0 rfl rfl 32 rfl d_HB_feed_29 ?_
        refine r_iload_n rfl 33 rfl d_HB_feed_32 ?_
        refine r_callV1 (st2 := [.int (nI ((ν 37 3) + 1))]) (w2 := CW X a (pu ν 37 (u1 (ν 37) 3 ((ν 37 3) + 1))) (u2 σ 38 (upd (σ 38) (ν 37 3) x)) τ) lk_Scr_append ln_HB_143 (c_Scr_append X (pl [37, 38, 39, 40] a) (pl [37, 38] ν) (pl [37, 38] σ) (pl [37, 38] τ)  x (hz)) (by first | decide | omega) rfl rfl (Nat.le_of_ble_eq_true rfl) (Nat.le_of_ble_eq_true rfl) (Nat.le_of_ble_eq_true rfl) [37, 38] rfl rfl 0 rfl rfl rfl rfl rfl 36 rfl d_HB_feed_33 ?_
        exact r_iret rfl (Nat.zero_le _) (Nat.zero_le _) d_HB_feed_36 (by rw [← hQ]; exact ⟨by simp [R_feed, h1, h7, r_x, h22, n22], by simp [b_feed, h1, h7, r_x, h22, n22]⟩)
      · have n22 : ν 37 3 = 100 := by omega
        refine r_bipush ((-4)) rfl 27 rfl d_HB_feed_25 ?_
        exact r_iret rfl (Nat.zero_le _) (Nat.zero_le _) d_HB_feed_27 (by rw [← hQ]; exact ⟨by simp [R_feed, h1, h7, r_x, h22, n22], by simp [b_feed, h1, h7, r_x, h22, n22]⟩)
    · have r_x : inR x (nI 0) (nI 127) = false := inR_gt (Int32.not_le.mp h7)
      refine r_bipush ((-2)) rfl 12 rfl d_HB_feed_10 ?_
      exact r_iret rfl (Nat.zero_le _) (Nat.zero_le _) d_HB_feed_12 (by rw [← hQ]; exact ⟨by simp [R_feed, h1, h7, r_x], by simp [b_feed, h1, h7, r_x]⟩)
theorem c_HB_trader (X : Xn) (a : Nat → Nat) (ν : Nat → Nat → Nat) (σ : Nat → Nat → Int32) (τ : Nat → Nat → Int64)  (k : Int32) (v : Int32) (hn6 : ν 2 3 ≤ 6) : Does X 4 M_HB_trader [.ref (a 0), .int k, .int v] (CW X a ν σ τ) 0 0 (fun (vv : Option Value) (ww : va_W) => vv = some (.int (R_trader (ν 2 3) k v)) ∧ ww = CW X a (if b_trader (ν 2 3) k v = true then pu ν 2 (u1 (ν 2) 3 (ν 2 3 + 1)) else ν) (if b_trader (ν 2 3) k v = true then u2 (u2 (u2 σ 6 (upd (σ 6) (ν 2 3) k)) 7 (upd (σ 7) (ν 2 3) v)) 3 (upd (σ 3) (ν 2 3) (nI 100)) else σ) τ) := by
  generalize hQ : (fun (vv : Option Value) (ww : va_W) => vv = some (.int (R_trader (ν 2 3) k v)) ∧ ww = CW X a (if b_trader (ν 2 3) k v = true then pu ν 2 (u1 (ν 2) 3 (ν 2 3 + 1)) else ν) (if b_trader (ν 2 3) k v = true then u2 (u2 (u2 σ 6 (upd (σ 6) (ν 2 3) k)) 7 (upd (σ 7) (ν 2 3) v)) 3 (upd (σ 3) (ν 2 3) (nI 100)) else σ) τ) = Q
  refine Does.go rfl (Nat.le_of_ble_eq_true rfl) [some (.ref (a 0)), some (.int k), some (.int v)] 0 rfl ?_
  refine r_iload_n rfl 1 rfl d_HB_trader_0 ?_
  refine r_if_lt 4 10 rfl rfl d_HB_trader_1 (fun h1 => ?_) (fun h1 => ?_)
  · have r_k : inR k (nI 0) (nI 6) = false := inR_lt h1
    refine r_iconst ((-1)) rfl 11 rfl d_HB_trader_10 ?_
    exact r_iret rfl (Nat.zero_le _) (Nat.zero_le _) d_HB_trader_11 (by rw [← hQ]; exact ⟨by simp [R_trader, h1, r_k], by simp [b_trader, h1, r_k]⟩)
  · refine r_iload_n rfl 5 rfl d_HB_trader_4 ?_
    refine r_bipush (nI 7) rfl 7 rfl d_HB_trader_5 ?_
    refine r_icmp_lt 10 12 rfl rfl d_HB_trader_7 (fun h7 => ?_) (fun h7 => ?_)
    · have r_k : inR k (nI 0) (nI 6) = true := inR_l1 (by decide) h1 h7
      refine r_iload_n rfl 13 rfl d_HB_trader_12 ?_
      refine r_if_lt 16 22 rfl rfl d_HB_trader_13 (fun h13 => ?_) (fun h13 => ?_)
      · have r_v : inR v (nI 0) (nI 9) = false := inR_lt h13
        refine r_bipush ((-2)) rfl 24 rfl d_HB_trader_22 ?_
        exact r_iret rfl (Nat.zero_le _) (Nat.zero_le _) d_HB_trader_24 (by rw [← hQ]; exact ⟨by simp [R_trader, h1, h7, r_k, h13, r_v], by simp [b_trader, h1, h7, r_k, h13, r_v]⟩)
      · refine r_iload_n rfl 17 rfl d_HB_trader_16 ?_
        refine r_bipush (nI 9) rfl 19 rfl d_HB_trader_17 ?_
        refine r_icmp_le 22 25 rfl rfl d_HB_trader_19 (fun h19 => ?_) (fun h19 => ?_)
        · have r_v : inR v (nI 0) (nI 9) = true := inR_in h13 (Int32.not_lt.mpr h19)
          refine r_aload_n rfl 26 rfl d_HB_trader_25 ?_
          refine r_getf (v := .ref (a 1)) gf_HB_12 0 rfl rfl 29 rfl d_HB_trader_26 ?_
          refine r_getfn (v := .ref (a 2)) gf_HB_49 1 rfl rfl 32 rfl d_HB_trader_29 ?_
          refine r_getfn (v := .int (nI (ν 2 3))) gf_HB_52 2 rfl rfl 35 rfl d_HB_trader_32 ?_
          refine r_bipush (nI 6) rfl 37 rfl d_HB_trader_35 ?_
          refine r_icmp_ltN (ν 2 3) 6 (by omega) (by omega) 40 43 rfl rfl d_HB_trader_37 (fun h37 => ?_) (fun h37 => ?_)
          · have n37 : ¬ ν 2 3 = 6 := by omega
            have hn5 : ν 2 3 < 6 := h37
            refine r_aload_n rfl 44 rfl d_HB_trader_43 ?_
            refine r_getf (v := .ref (a 1)) gf_HB_12 0 rfl rfl 47 rfl d_HB_trader_44 ?_
            refine r_iload_n rfl 48 rfl d_HB_trader_47 ?_
            refine r_iload_n rfl 49 rfl d_HB_trader_48 ?_
            refine r_callV1 (st2 := [.int (nI (ν 2 3))]) (w2 := CW X a (pu ν 2 (u1 (ν 2) 3 ((ν 2 3) + 1))) (u2 (u2 (u2 σ 6 (upd (σ 6) (ν 2 3) k)) 7 (upd (σ 7) (ν 2 3) v)) 3 (upd (σ 3) (ν 2 3) (nI 100))) τ) lk_Mkt_join ln_HB_56 (c_Mkt_join X (pl [1, 2, 3, 4, 5, 6, 7, 8, 9, 10, 11, 12, 13, 14, 15, 16] a) (pl [1, 2, 3, 4, 5, 6, 7, 8, 9, 10, 11, 12, 13, 14, 15, 16] ν) (pl [1, 2, 3, 4, 5, 6, 7, 8, 9, 10, 11, 12, 13, 14, 15, 16] σ) (pl [1, 2, 3, 4, 5, 6, 7, 8, 9, 10, 11, 12, 13, 14, 15, 16] τ)  k v (hn5)) (by first | decide | omega) rfl rfl (Nat.le_of_ble_eq_true rfl) (Nat.le_of_ble_eq_true rfl) (Nat.le_of_ble_eq_true rfl) [1, 2, 3, 4, 5, 6, 7, 8, 9, 10, 11, 12, 13, 14, 15, 16] rfl rfl 0 rfl rfl rfl rfl rfl 52 rfl d_HB_trader_49 ?_
            exact r_iret rfl (Nat.zero_le _) (Nat.zero_le _) d_HB_trader_52 (by rw [← hQ]; exact ⟨by simp [R_trader, h1, h7, r_k, h13, h19, r_v, h37, n37], by simp [b_trader, h1, h7, r_k, h13, h19, r_v, h37, n37]⟩)
          · have n37 : ν 2 3 = 6 := by omega
            refine r_bipush ((-4)) rfl 42 rfl d_HB_trader_40 ?_
            exact r_iret rfl (Nat.zero_le _) (Nat.zero_le _) d_HB_trader_42 (by rw [← hQ]; exact ⟨by simp [R_trader, h1, h7, r_k, h13, h19, r_v, h37, n37], by simp [b_trader, h1, h7, r_k, h13, h19, r_v, h37, n37]⟩)
        · have r_v : inR v (nI 0) (nI 9) = false := inR_gt (Int32.not_le.mp h19)
          refine r_bipush ((-2)) rfl 24 rfl d_HB_trader_22 ?_
          exact r_iret rfl (Nat.zero_le _) (Nat.zero_le _) d_HB_trader_24 (by rw [← hQ]; exact ⟨by simp [R_trader, h1, h7, r_k, h13, h19, r_v], by simp [b_trader, h1, h7, r_k, h13, h19, r_v]⟩)
    · have r_k : inR k (nI 0) (nI 6) = false := inR_g1 (by decide) h7
      refine r_iconst ((-1)) rfl 11 rfl d_HB_trader_10 ?_
      exact r_iret rfl (Nat.zero_le _) (Nat.zero_le _) d_HB_trader_11 (by rw [← hQ]; exact ⟨by simp [R_trader, h1, h7, r_k], by simp [b_trader, h1, h7, r_k]⟩)
theorem c_HB_see (X : Xn) (a : Nat → Nat) (ν : Nat → Nat → Nat) (σ : Nat → Nat → Int32) (τ : Nat → Nat → Int64)  (p : Int32) (q : Int32) (s : Int32) (x : Int32) (y : Int32) (hn6 : ν 2 3 ≤ 6) (hm5 : ν 9 1 ≤ 5) : Does X 3 M_HB_see [.ref (a 0), .int p, .int q, .int s, .int x, .int y] (CW X a ν σ τ) 0 0 (fun (vv : Option Value) (ww : va_W) => vv = some (.int (R_see (ν 2 3) (ν 9 1) p q s x y)) ∧ ww = CW X a (pu ν 9 (u1 (ν 9) 1 (N_see (ν 2 3) (ν 9 1) p q s x y))) (if b_see (ν 2 3) (ν 9 1) p q s x y = true then u2 σ 10 (up5 (σ 10) (ν 9 1) p q s x y) else σ) τ) := by
  generalize hQ : (fun (vv : Option Value) (ww : va_W) => vv = some (.int (R_see (ν 2 3) (ν 9 1) p q s x y)) ∧ ww = CW X a (pu ν 9 (u1 (ν 9) 1 (N_see (ν 2 3) (ν 9 1) p q s x y))) (if b_see (ν 2 3) (ν 9 1) p q s x y = true then u2 σ 10 (up5 (σ 10) (ν 9 1) p q s x y) else σ) τ) = Q
  refine Does.go rfl (Nat.le_of_ble_eq_true rfl) [some (.ref (a 0)), some (.int p), some (.int q), some (.int s), some (.int x), some (.int y), none] 1 rfl ?_
  refine r_iload_n rfl 1 rfl d_HB_see_0 ?_
  refine r_iconst ((-1)) rfl 2 rfl d_HB_see_1 ?_
  refine r_icmp_ne 5 18 rfl rfl d_HB_see_2 (fun h2 => ?_) (fun h2 => ?_)
  · refine r_aload_n rfl 19 rfl d_HB_see_18 ?_
    refine r_iload_n rfl 20 rfl d_HB_see_19 ?_
    refine r_iload_n rfl 21 rfl d_HB_see_20 ?_
    refine r_callVA1 (st2 := [.int (rpV (ν 2 3) p q)]) (w2 := CW X a ν σ τ) lk_HB_refusedPair ln_HB_95 (c_HB_refusedPair X a ν σ τ  p q (hn6)) (by first | decide | omega) rfl rfl (Nat.le_of_ble_eq_true rfl) (Nat.le_of_ble_eq_true rfl) (Nat.le_of_ble_eq_true rfl) 0 rfl rfl rfl rfl 24 rfl d_HB_see_21 ?_
    refine r_istore (ls2 := [some (.ref (a 0)), some (.int p), some (.int q), some (.int s), some (.int x), some (.int y), some (.int (rpV (ν 2 3) p q))]) 26 rfl d_HB_see_24 (by decide) rfl rfl ?_
    refine r_iload rfl 28 rfl d_HB_see_26 ?_
    refine r_if_eq 31 34 rfl rfl d_HB_see_28 (fun h28 => ?_) (fun h28 => ?_)
    · obtain ⟨pN, qN, hpN, hqN, hne, rfl, rfl⟩ := rpV_0 hn6 h28
      have epN : cn (nI pN) = pN := cn_nI (by omega)
      have eqN : cn (nI qN) = qN := cn_nI (by omega)
      have bpq := rpV_b hn6 hpN hqN
      have bp := isB_of hn6 hpN
      have bq := isB_of hn6 hqN
      have hnI := nI_ne (by omega) (by omega) hne
      have mpN : ¬ nI pN = -1 := m1n (by omega)
      refine r_iload_n rfl 35 rfl d_HB_see_34 ?_
      refine r_if_lt 38 69 rfl rfl d_HB_see_35 (fun h35 => ?_) (fun h35 => ?_)
      · have r_s : inR s (nI 0) (nI 99) = false := inR_lt h35
        refine r_bipush ((-2)) rfl 71 rfl d_HB_see_69 ?_
        exact r_iret rfl (Nat.zero_le _) (Nat.zero_le _) d_HB_see_71 (by rw [← hQ]; exact ⟨by simp [R_see, h2, epN, eqN, bp, bq, hnI, mpN, h35, r_s], by first | (simp [N_see, b_see, u1_self, pu_self, up5, h2, epN, eqN, bp, bq, hnI, mpN, h35, r_s]; done) | (simp [N_see, b_see, u1_self, pu_self, up5, h2, epN, eqN, bp, bq, hnI, mpN, h35, r_s]; rw [← hm, u1_self, pu_self])⟩)
      · refine r_iload_n rfl 39 rfl d_HB_see_38 ?_
        refine r_bipush (nI 99) rfl 41 rfl d_HB_see_39 ?_
        refine r_icmp_gt 44 69 rfl rfl d_HB_see_41 (fun h41 => ?_) (fun h41 => ?_)
        · have r_s : inR s (nI 0) (nI 99) = false := inR_gt h41
          refine r_bipush ((-2)) rfl 71 rfl d_HB_see_69 ?_
          exact r_iret rfl (Nat.zero_le _) (Nat.zero_le _) d_HB_see_71 (by rw [← hQ]; exact ⟨by simp [R_see, h2, epN, eqN, bp, bq, hnI, mpN, h35, h41, r_s], by first | (simp [N_see, b_see, u1_self, pu_self, up5, h2, epN, eqN, bp, bq, hnI, mpN, h35, h41, r_s]; done) | (simp [N_see, b_see, u1_self, pu_self, up5, h2, epN, eqN, bp, bq, hnI, mpN, h35, h41, r_s]; rw [← hm, u1_self, pu_self])⟩)
        · have r_s : inR s (nI 0) (nI 99) = true := inR_in h35 h41
          refine r_iload rfl 46 rfl d_HB_see_44 ?_
          refine r_if_lt 49 69 rfl rfl d_HB_see_46 (fun h46 => ?_) (fun h46 => ?_)
          · have r_x : inR x (nI 0) (nI 20) = false := inR_lt h46
            refine r_bipush ((-2)) rfl 71 rfl d_HB_see_69 ?_
            exact r_iret rfl (Nat.zero_le _) (Nat.zero_le _) d_HB_see_71 (by rw [← hQ]; exact ⟨by simp [R_see, h2, epN, eqN, bp, bq, hnI, mpN, h35, h41, r_s, h46, r_x], by first | (simp [N_see, b_see, u1_self, pu_self, up5, h2, epN, eqN, bp, bq, hnI, mpN, h35, h41, r_s, h46, r_x]; done) | (simp [N_see, b_see, u1_self, pu_self, up5, h2, epN, eqN, bp, bq, hnI, mpN, h35, h41, r_s, h46, r_x]; rw [← hm, u1_self, pu_self])⟩)
          · refine r_iload rfl 51 rfl d_HB_see_49 ?_
            refine r_bipush (nI 20) rfl 53 rfl d_HB_see_51 ?_
            refine r_icmp_gt 56 69 rfl rfl d_HB_see_53 (fun h53 => ?_) (fun h53 => ?_)
            · have r_x : inR x (nI 0) (nI 20) = false := inR_gt h53
              refine r_bipush ((-2)) rfl 71 rfl d_HB_see_69 ?_
              exact r_iret rfl (Nat.zero_le _) (Nat.zero_le _) d_HB_see_71 (by rw [← hQ]; exact ⟨by simp [R_see, h2, epN, eqN, bp, bq, hnI, mpN, h35, h41, r_s, h46, h53, r_x], by first | (simp [N_see, b_see, u1_self, pu_self, up5, h2, epN, eqN, bp, bq, hnI, mpN, h35, h41, r_s, h46, h53, r_x]; done) | (simp [N_see, b_see, u1_self, pu_self, up5, h2, epN, eqN, bp, bq, hnI, mpN, h35, h41, r_s, h46, h53, r_x]; rw [← hm, u1_self, pu_self])⟩)
            · have r_x : inR x (nI 0) (nI 20) = true := inR_in h46 h53
              refine r_iload rfl 58 rfl d_HB_see_56 ?_
              refine r_if_lt 61 69 rfl rfl d_HB_see_58 (fun h58 => ?_) (fun h58 => ?_)
              · have r_y : inR y (nI 0) (nI 999) = false := inR_lt h58
                refine r_bipush ((-2)) rfl 71 rfl d_HB_see_69 ?_
                exact r_iret rfl (Nat.zero_le _) (Nat.zero_le _) d_HB_see_71 (by rw [← hQ]; exact ⟨by simp [R_see, h2, epN, eqN, bp, bq, hnI, mpN, h35, h41, r_s, h46, h53, r_x, h58, r_y], by first | (simp [N_see, b_see, u1_self, pu_self, up5, h2, epN, eqN, bp, bq, hnI, mpN, h35, h41, r_s, h46, h53, r_x, h58, r_y]; done) | (simp [N_see, b_see, u1_self, pu_self, up5, h2, epN, eqN, bp, bq, hnI, mpN, h35, h41, r_s, h46, h53, r_x, h58, r_y]; rw [← hm, u1_self, pu_self])⟩)
              · refine r_iload rfl 63 rfl d_HB_see_61 ?_
                refine r_sipush (nI 999) rfl 66 rfl d_HB_see_63 ?_
                refine r_icmp_le 69 72 rfl rfl d_HB_see_66 (fun h66 => ?_) (fun h66 => ?_)
                · have r_y : inR y (nI 0) (nI 999) = true := inR_in h58 (Int32.not_lt.mpr h66)
                  by_cases hm : ν 9 1 = 5
                  · have hq : 25 < 5 * (ν 9 1) + 5 := by omega
                    have hq2 : ν 9 1 < 1000 := by omega
                    refine r_aload_n rfl 73 rfl d_HB_see_72 ?_
                    refine r_getf (v := .ref (a 1)) gf_HB_12 0 rfl rfl 76 rfl d_HB_see_73 ?_
                    refine r_getfn (v := .ref (a 9)) gf_HB_175 1 rfl rfl 79 rfl d_HB_see_76 ?_
                    refine r_iload_n rfl 80 rfl d_HB_see_79 ?_
                    refine r_iload_n rfl 81 rfl d_HB_see_80 ?_
                    refine r_iload_n rfl 82 rfl d_HB_see_81 ?_
                    refine r_iload rfl 84 rfl d_HB_see_82 ?_
                    refine r_iload rfl 86 rfl d_HB_see_84 ?_
                    refine r_callV1 (st2 := [.int (nI 0)]) (w2 := CW X a ν σ τ) lk_Rws_add ln_HB_182 (c_Rws_add0 X 25 (pl [9, 10] a) (pl [9, 10] ν) (pl [9, 10] σ) (pl [9, 10] τ) (nI pN) (nI qN) s x y hq (by decide) hq2) (by first | decide | omega) rfl rfl (Nat.le_of_ble_eq_true rfl) (Nat.le_of_ble_eq_true rfl) (Nat.le_of_ble_eq_true rfl) [9, 10] rfl rfl 0 rfl rfl rfl rfl rfl 89 rfl d_HB_see_86 ?_
                    refine r_if_eqN_t 0 (by omega) 105 rfl d_HB_see_89 (by decide) ?_
                    refine r_bipush ((-4)) rfl 107 rfl d_HB_see_105 ?_
                    exact r_iret rfl (Nat.zero_le _) (Nat.zero_le _) d_HB_see_107 (by rw [← hQ]; exact ⟨by simp [R_see, h2, epN, eqN, bp, bq, hnI, mpN, h35, h41, r_s, h46, h53, r_x, h58, h66, r_y, hm], by first | (simp [N_see, b_see, u1_self, pu_self, up5, h2, epN, eqN, bp, bq, hnI, mpN, h35, h41, r_s, h46, h53, r_x, h58, h66, r_y, hm]; done) | (simp [N_see, b_see, u1_self, pu_self, up5, h2, epN, eqN, bp, bq, hnI, mpN, h35, h41, r_s, h46, h53, r_x, h58, h66, r_y, hm]; rw [← hm, u1_self, pu_self])⟩)
                  · have hq : 5 * (ν 9 1) + 5 ≤ 25 := by omega
                    have hq2 : ν 9 1 < 1000 := by omega
                    refine r_aload_n rfl 73 rfl d_HB_see_72 ?_
                    refine r_getf (v := .ref (a 1)) gf_HB_12 0 rfl rfl 76 rfl d_HB_see_73 ?_
                    refine r_getfn (v := .ref (a 9)) gf_HB_175 1 rfl rfl 79 rfl d_HB_see_76 ?_
                    refine r_iload_n rfl 80 rfl d_HB_see_79 ?_
                    refine r_iload_n rfl 81 rfl d_HB_see_80 ?_
                    refine r_iload_n rfl 82 rfl d_HB_see_81 ?_
                    refine r_iload rfl 84 rfl d_HB_see_82 ?_
                    refine r_iload rfl 86 rfl d_HB_see_84 ?_
                    refine r_callV1 (st2 := [.int (nI 1)]) (w2 := CW X a (pu ν 9 (u1 (ν 9) 1 ((ν 9 1) + 1))) (u2 σ 10 (upd (upd (upd (upd (upd ((σ 10)) (5 * (ν 9 1)) (nI pN)) (5 * (ν 9 1) + 1) (nI qN)) (5 * (ν 9 1) + 2) s) (5 * (ν 9 1) + 3) x) (5 * (ν 9 1) + 4) y)) τ) lk_Rws_add ln_HB_182 (c_Rws_add1 X 25 (pl [9, 10] a) (pl [9, 10] ν) (pl [9, 10] σ) (pl [9, 10] τ) (nI pN) (nI qN) s x y hq (by decide) hq2) (by first | decide | omega) rfl rfl (Nat.le_of_ble_eq_true rfl) (Nat.le_of_ble_eq_true rfl) (Nat.le_of_ble_eq_true rfl) [9, 10] rfl rfl 0 rfl rfl rfl rfl rfl 89 rfl d_HB_see_86 ?_
                    refine r_if_eqN_f 1 (by omega) 92 rfl 105 rfl d_HB_see_89 (by decide) ?_
                    refine r_aload_n rfl 93 rfl d_HB_see_92 ?_
                    refine r_getf (v := .ref (a 1)) gf_HB_12 0 rfl rfl 96 rfl d_HB_see_93 ?_
                    refine r_getfn (v := .ref (a 9)) gf_HB_175 1 rfl rfl 99 rfl d_HB_see_96 ?_
                    refine r_getfn (v := .int (nI ((ν 9 1) + 1))) gf_HB_179 9 rfl rfl 102 rfl d_HB_see_99 ?_
                    refine r_goto 107 rfl d_HB_see_102 ?_
                    exact r_iret rfl (Nat.zero_le _) (Nat.zero_le _) d_HB_see_107 (by rw [← hQ]; exact ⟨by simp [R_see, h2, epN, eqN, bp, bq, hnI, mpN, h35, h41, r_s, h46, h53, r_x, h58, h66, r_y, hm], by first | (simp [N_see, b_see, u1_self, pu_self, up5, h2, epN, eqN, bp, bq, hnI, mpN, h35, h41, r_s, h46, h53, r_x, h58, h66, r_y, hm]; done) | (simp [N_see, b_see, u1_self, pu_self, up5, h2, epN, eqN, bp, bq, hnI, mpN, h35, h41, r_s, h46, h53, r_x, h58, h66, r_y, hm]; rw [← hm, u1_self, pu_self])⟩)
                · have r_y : inR y (nI 0) (nI 999) = false := inR_gt (Int32.not_le.mp h66)
                  refine r_bipush ((-2)) rfl 71 rfl d_HB_see_69 ?_
                  exact r_iret rfl (Nat.zero_le _) (Nat.zero_le _) d_HB_see_71 (by rw [← hQ]; exact ⟨by simp [R_see, h2, epN, eqN, bp, bq, hnI, mpN, h35, h41, r_s, h46, h53, r_x, h58, h66, r_y], by first | (simp [N_see, b_see, u1_self, pu_self, up5, h2, epN, eqN, bp, bq, hnI, mpN, h35, h41, r_s, h46, h53, r_x, h58, h66, r_y]; done) | (simp [N_see, b_see, u1_self, pu_self, up5, h2, epN, eqN, bp, bq, hnI, mpN, h35, h41, r_s, h46, h53, r_x, h58, h66, r_y]; rw [← hm, u1_self, pu_self])⟩)
    · have pair : ¬ rpV (ν 2 3) p q = 0 := h28
      refine r_iload rfl 33 rfl d_HB_see_31 ?_
      exact r_iret rfl (Nat.zero_le _) (Nat.zero_le _) d_HB_see_33 (by rw [← hQ]; exact ⟨by rw [R_see, if_neg h2, rpE, if_neg pair], by rw [N_see, if_neg h2, se_f pair]; simp [u1_self, pu_self]⟩)
  · refine r_aload_n rfl 6 rfl d_HB_see_5 ?_
    refine r_getf (v := .ref (a 1)) gf_HB_12 0 rfl rfl 9 rfl d_HB_see_6 ?_
    refine r_getfn (v := .ref (a 9)) gf_HB_175 1 rfl rfl 12 rfl d_HB_see_9 ?_
    refine r_iconst (nI 0) rfl 13 rfl d_HB_see_12 ?_
    refine r_putfn (w2 := CW X a (pu ν 9 (u1 (ν 9) 1 0)) σ τ) pf_HB_179 9 rfl (rfl) rfl (Nat.le_of_ble_eq_true rfl) rfl 16 rfl d_HB_see_13 ?_
    refine r_iconst (nI 0) rfl 17 rfl d_HB_see_16 ?_
    exact r_iret rfl (Nat.zero_le _) (Nat.zero_le _) d_HB_see_17 (by rw [← hQ]; exact ⟨by simp [R_see, h2], by first | (simp [N_see, b_see, u1_self, pu_self, up5, h2]; done) | (simp [N_see, b_see, u1_self, pu_self, up5, h2]; rw [← hm, u1_self, pu_self])⟩)
theorem c_HB_book (X : Xn) (a : Nat → Nat) (ν : Nat → Nat → Nat) (σ : Nat → Nat → Int32) (τ : Nat → Nat → Int64)  (p : Int32) (q : Int32) (x : Int32) (hn6 : ν 2 3 ≤ 6) (hm5 : ν 13 1 ≤ 8) : Does X 3 M_HB_book [.ref (a 0), .int p, .int q, .int x] (CW X a ν σ τ) 0 0 (fun (vv : Option Value) (ww : va_W) => vv = some (.int (R_book (ν 2 3) (ν 13 1) p q x)) ∧ ww = CW X a (pu ν 13 (u1 (ν 13) 1 (N_book (ν 2 3) (ν 13 1) p q x))) (if b_book (ν 2 3) (ν 13 1) p q x = true then u2 σ 14 (up5 (σ 14) (ν 13 1) p q x (nI 0) (nI 0)) else σ) τ) := by
  generalize hQ : (fun (vv : Option Value) (ww : va_W) => vv = some (.int (R_book (ν 2 3) (ν 13 1) p q x)) ∧ ww = CW X a (pu ν 13 (u1 (ν 13) 1 (N_book (ν 2 3) (ν 13 1) p q x))) (if b_book (ν 2 3) (ν 13 1) p q x = true then u2 σ 14 (up5 (σ 14) (ν 13 1) p q x (nI 0) (nI 0)) else σ) τ) = Q
  refine Does.go rfl (Nat.le_of_ble_eq_true rfl) [some (.ref (a 0)), some (.int p), some (.int q), some (.int x), none] 1 rfl ?_
  refine r_iload_n rfl 1 rfl d_HB_book_0 ?_
  refine r_iconst ((-1)) rfl 2 rfl d_HB_book_1 ?_
  refine r_icmp_ne 5 18 rfl rfl d_HB_book_2 (fun h2 => ?_) (fun h2 => ?_)
  · refine r_aload_n rfl 19 rfl d_HB_book_18 ?_
    refine r_iload_n rfl 20 rfl d_HB_book_19 ?_
    refine r_iload_n rfl 21 rfl d_HB_book_20 ?_
    refine r_callVA1 (st2 := [.int (rpV (ν 2 3) p q)]) (w2 := CW X a ν σ τ) lk_HB_refusedPair ln_HB_95 (c_HB_refusedPair X a ν σ τ  p q (hn6)) (by first | decide | omega) rfl rfl (Nat.le_of_ble_eq_true rfl) (Nat.le_of_ble_eq_true rfl) (Nat.le_of_ble_eq_true rfl) 0 rfl rfl rfl rfl 24 rfl d_HB_book_21 ?_
    refine r_istore (ls2 := [some (.ref (a 0)), some (.int p), some (.int q), some (.int x), some (.int (rpV (ν 2 3) p q))]) 26 rfl d_HB_book_24 (by decide) rfl rfl ?_
    refine r_iload rfl 28 rfl d_HB_book_26 ?_
    refine r_if_eq 31 34 rfl rfl d_HB_book_28 (fun h28 => ?_) (fun h28 => ?_)
    · obtain ⟨pN, qN, hpN, hqN, hne, rfl, rfl⟩ := rpV_0 hn6 h28
      have epN : cn (nI pN) = pN := cn_nI (by omega)
      have eqN : cn (nI qN) = qN := cn_nI (by omega)
      have bpq := rpV_b hn6 hpN hqN
      have bp := isB_of hn6 hpN
      have bq := isB_of hn6 hqN
      have hnI := nI_ne (by omega) (by omega) hne
      have mpN : ¬ nI pN = -1 := m1n (by omega)
      refine r_iload_n rfl 35 rfl d_HB_book_34 ?_
      refine r_if_lt 38 45 rfl rfl d_HB_book_35 (fun h35 => ?_) (fun h35 => ?_)
      · have r_x : inR x (nI 0) (nI 9999) = false := inR_lt h35
        refine r_bipush ((-2)) rfl 47 rfl d_HB_book_45 ?_
        exact r_iret rfl (Nat.zero_le _) (Nat.zero_le _) d_HB_book_47 (by rw [← hQ]; exact ⟨by simp [R_book, h2, epN, eqN, bp, bq, hnI, mpN, h35, r_x], by first | (simp [N_book, b_book, u1_self, pu_self, up5, h2, epN, eqN, bp, bq, hnI, mpN, h35, r_x]; done) | (simp [N_book, b_book, u1_self, pu_self, up5, h2, epN, eqN, bp, bq, hnI, mpN, h35, r_x]; rw [← hm, u1_self, pu_self])⟩)
      · refine r_iload_n rfl 39 rfl d_HB_book_38 ?_
        refine r_sipush (nI 9999) rfl 42 rfl d_HB_book_39 ?_
        refine r_icmp_le 45 48 rfl rfl d_HB_book_42 (fun h42 => ?_) (fun h42 => ?_)
        · have r_x : inR x (nI 0) (nI 9999) = true := inR_in h35 (Int32.not_lt.mpr h42)
          by_cases hm : ν 13 1 = 8
          · have hq : 40 < 5 * (ν 13 1) + 5 := by omega
            have hq2 : ν 13 1 < 1000 := by omega
            refine r_aload_n rfl 49 rfl d_HB_book_48 ?_
            refine r_getf (v := .ref (a 1)) gf_HB_12 0 rfl rfl 52 rfl d_HB_book_49 ?_
            refine r_getfn (v := .ref (a 13)) gf_HB_217 1 rfl rfl 55 rfl d_HB_book_52 ?_
            refine r_iload_n rfl 56 rfl d_HB_book_55 ?_
            refine r_iload_n rfl 57 rfl d_HB_book_56 ?_
            refine r_iload_n rfl 58 rfl d_HB_book_57 ?_
            refine r_iconst (nI 0) rfl 59 rfl d_HB_book_58 ?_
            refine r_iconst (nI 0) rfl 60 rfl d_HB_book_59 ?_
            refine r_callV1 (st2 := [.int (nI 0)]) (w2 := CW X a ν σ τ) lk_Rws_add ln_HB_182 (c_Rws_add0 X 40 (pl [13, 14] a) (pl [13, 14] ν) (pl [13, 14] σ) (pl [13, 14] τ) (nI pN) (nI qN) x (nI 0) (nI 0) hq (by decide) hq2) (by first | decide | omega) rfl rfl (Nat.le_of_ble_eq_true rfl) (Nat.le_of_ble_eq_true rfl) (Nat.le_of_ble_eq_true rfl) [13, 14] rfl rfl 0 rfl rfl rfl rfl rfl 63 rfl d_HB_book_60 ?_
            refine r_if_eqN_t 0 (by omega) 79 rfl d_HB_book_63 (by decide) ?_
            refine r_bipush ((-4)) rfl 81 rfl d_HB_book_79 ?_
            exact r_iret rfl (Nat.zero_le _) (Nat.zero_le _) d_HB_book_81 (by rw [← hQ]; exact ⟨by simp [R_book, h2, epN, eqN, bp, bq, hnI, mpN, h35, h42, r_x, hm], by first | (simp [N_book, b_book, u1_self, pu_self, up5, h2, epN, eqN, bp, bq, hnI, mpN, h35, h42, r_x, hm]; done) | (simp [N_book, b_book, u1_self, pu_self, up5, h2, epN, eqN, bp, bq, hnI, mpN, h35, h42, r_x, hm]; rw [← hm, u1_self, pu_self])⟩)
          · have hq : 5 * (ν 13 1) + 5 ≤ 40 := by omega
            have hq2 : ν 13 1 < 1000 := by omega
            refine r_aload_n rfl 49 rfl d_HB_book_48 ?_
            refine r_getf (v := .ref (a 1)) gf_HB_12 0 rfl rfl 52 rfl d_HB_book_49 ?_
            refine r_getfn (v := .ref (a 13)) gf_HB_217 1 rfl rfl 55 rfl d_HB_book_52 ?_
            refine r_iload_n rfl 56 rfl d_HB_book_55 ?_
            refine r_iload_n rfl 57 rfl d_HB_book_56 ?_
            refine r_iload_n rfl 58 rfl d_HB_book_57 ?_
            refine r_iconst (nI 0) rfl 59 rfl d_HB_book_58 ?_
            refine r_iconst (nI 0) rfl 60 rfl d_HB_book_59 ?_
            refine r_callV1 (st2 := [.int (nI 1)]) (w2 := CW X a (pu ν 13 (u1 (ν 13) 1 ((ν 13 1) + 1))) (u2 σ 14 (upd (upd (upd (upd (upd ((σ 14)) (5 * (ν 13 1)) (nI pN)) (5 * (ν 13 1) + 1) (nI qN)) (5 * (ν 13 1) + 2) x) (5 * (ν 13 1) + 3) (nI 0)) (5 * (ν 13 1) + 4) (nI 0))) τ) lk_Rws_add ln_HB_182 (c_Rws_add1 X 40 (pl [13, 14] a) (pl [13, 14] ν) (pl [13, 14] σ) (pl [13, 14] τ) (nI pN) (nI qN) x (nI 0) (nI 0) hq (by decide) hq2) (by first | decide | omega) rfl rfl (Nat.le_of_ble_eq_true rfl) (Nat.le_of_ble_eq_true rfl) (Nat.le_of_ble_eq_true rfl) [13, 14] rfl rfl 0 rfl rfl rfl rfl rfl 63 rfl d_HB_book_60 ?_
            refine r_if_eqN_f 1 (by omega) 66 rfl 79 rfl d_HB_book_63 (by decide) ?_
            refine r_aload_n rfl 67 rfl d_HB_book_66 ?_
            refine r_getf (v := .ref (a 1)) gf_HB_12 0 rfl rfl 70 rfl d_HB_book_67 ?_
            refine r_getfn (v := .ref (a 13)) gf_HB_217 1 rfl rfl 73 rfl d_HB_book_70 ?_
            refine r_getfn (v := .int (nI ((ν 13 1) + 1))) gf_HB_179 13 rfl rfl 76 rfl d_HB_book_73 ?_
            refine r_goto 81 rfl d_HB_book_76 ?_
            exact r_iret rfl (Nat.zero_le _) (Nat.zero_le _) d_HB_book_81 (by rw [← hQ]; exact ⟨by simp [R_book, h2, epN, eqN, bp, bq, hnI, mpN, h35, h42, r_x, hm], by first | (simp [N_book, b_book, u1_self, pu_self, up5, h2, epN, eqN, bp, bq, hnI, mpN, h35, h42, r_x, hm]; done) | (simp [N_book, b_book, u1_self, pu_self, up5, h2, epN, eqN, bp, bq, hnI, mpN, h35, h42, r_x, hm]; rw [← hm, u1_self, pu_self])⟩)
        · have r_x : inR x (nI 0) (nI 9999) = false := inR_gt (Int32.not_le.mp h42)
          refine r_bipush ((-2)) rfl 47 rfl d_HB_book_45 ?_
          exact r_iret rfl (Nat.zero_le _) (Nat.zero_le _) d_HB_book_47 (by rw [← hQ]; exact ⟨by simp [R_book, h2, epN, eqN, bp, bq, hnI, mpN, h35, h42, r_x], by first | (simp [N_book, b_book, u1_self, pu_self, up5, h2, epN, eqN, bp, bq, hnI, mpN, h35, h42, r_x]; done) | (simp [N_book, b_book, u1_self, pu_self, up5, h2, epN, eqN, bp, bq, hnI, mpN, h35, h42, r_x]; rw [← hm, u1_self, pu_self])⟩)
    · have pair : ¬ rpV (ν 2 3) p q = 0 := h28
      refine r_iload rfl 33 rfl d_HB_book_31 ?_
      exact r_iret rfl (Nat.zero_le _) (Nat.zero_le _) d_HB_book_33 (by rw [← hQ]; exact ⟨by rw [R_book, if_neg h2, rpE, if_neg pair], by rw [N_book, if_neg h2, bk_f pair]; simp [u1_self, pu_self]⟩)
  · refine r_aload_n rfl 6 rfl d_HB_book_5 ?_
    refine r_getf (v := .ref (a 1)) gf_HB_12 0 rfl rfl 9 rfl d_HB_book_6 ?_
    refine r_getfn (v := .ref (a 13)) gf_HB_217 1 rfl rfl 12 rfl d_HB_book_9 ?_
    refine r_iconst (nI 0) rfl 13 rfl d_HB_book_12 ?_
    refine r_putfn (w2 := CW X a (pu ν 13 (u1 (ν 13) 1 0)) σ τ) pf_HB_179 13 rfl (rfl) rfl (Nat.le_of_ble_eq_true rfl) rfl 16 rfl d_HB_book_13 ?_
    refine r_iconst (nI 0) rfl 17 rfl d_HB_book_16 ?_
    exact r_iret rfl (Nat.zero_le _) (Nat.zero_le _) d_HB_book_17 (by rw [← hQ]; exact ⟨by simp [R_book, h2], by first | (simp [N_book, b_book, u1_self, pu_self, up5, h2]; done) | (simp [N_book, b_book, u1_self, pu_self, up5, h2]; rw [← hm, u1_self, pu_self])⟩)
theorem c_HB_plan (X : Xn) (a : Nat → Nat) (ν : Nat → Nat → Nat) (σ : Nat → Nat → Int32) (τ : Nat → Nat → Int64)  (w : Int32) (p : Int32) (hn6 : ν 2 3 ≤ 6) (hm5 : ν 11 1 ≤ 10) : Does X 3 M_HB_plan [.ref (a 0), .int w, .int p] (CW X a ν σ τ) 0 0 (fun (vv : Option Value) (ww : va_W) => vv = some (.int (R_plan (ν 2 3) (ν 11 1) w p)) ∧ ww = CW X a (pu ν 11 (u1 (ν 11) 1 (N_plan (ν 2 3) (ν 11 1) w p))) (if b_plan (ν 2 3) (ν 11 1) w p = true then u2 σ 12 (up5 (σ 12) (ν 11 1) w p (nI 0) (nI 0) (nI 0)) else σ) τ) := by
  generalize hQ : (fun (vv : Option Value) (ww : va_W) => vv = some (.int (R_plan (ν 2 3) (ν 11 1) w p)) ∧ ww = CW X a (pu ν 11 (u1 (ν 11) 1 (N_plan (ν 2 3) (ν 11 1) w p))) (if b_plan (ν 2 3) (ν 11 1) w p = true then u2 σ 12 (up5 (σ 12) (ν 11 1) w p (nI 0) (nI 0) (nI 0)) else σ) τ) = Q
  refine Does.go rfl (Nat.le_of_ble_eq_true rfl) [some (.ref (a 0)), some (.int w), some (.int p)] 0 rfl ?_
  refine r_iload_n rfl 1 rfl d_HB_plan_0 ?_
  refine r_iconst ((-1)) rfl 2 rfl d_HB_plan_1 ?_
  refine r_icmp_ne 5 18 rfl rfl d_HB_plan_2 (fun h2 => ?_) (fun h2 => ?_)
  · refine r_iload_n rfl 19 rfl d_HB_plan_18 ?_
    refine r_if_lt 22 39 rfl rfl d_HB_plan_19 (fun h19 => ?_) (fun h19 => ?_)
    · have r_w : inR w (nI 0) (nI 3) = false := inR_lt h19
      refine r_iconst ((-1)) rfl 40 rfl d_HB_plan_39 ?_
      exact r_iret rfl (Nat.zero_le _) (Nat.zero_le _) d_HB_plan_40 (by rw [← hQ]; exact ⟨by simp [R_plan, h2, h19, r_w], by first | (simp [N_plan, b_plan, u1_self, pu_self, up5, h2, h19, r_w]; done) | (simp [N_plan, b_plan, u1_self, pu_self, up5, h2, h19, r_w]; rw [← hm, u1_self, pu_self])⟩)
    · refine r_iload_n rfl 23 rfl d_HB_plan_22 ?_
      refine r_iconst (nI 3) rfl 24 rfl d_HB_plan_23 ?_
      refine r_icmp_gt 27 39 rfl rfl d_HB_plan_24 (fun h24 => ?_) (fun h24 => ?_)
      · have r_w : inR w (nI 0) (nI 3) = false := inR_gt h24
        refine r_iconst ((-1)) rfl 40 rfl d_HB_plan_39 ?_
        exact r_iret rfl (Nat.zero_le _) (Nat.zero_le _) d_HB_plan_40 (by rw [← hQ]; exact ⟨by simp [R_plan, h2, h19, h24, r_w], by first | (simp [N_plan, b_plan, u1_self, pu_self, up5, h2, h19, h24, r_w]; done) | (simp [N_plan, b_plan, u1_self, pu_self, up5, h2, h19, h24, r_w]; rw [← hm, u1_self, pu_self])⟩)
      · have r_w : inR w (nI 0) (nI 3) = true := inR_in h19 h24
        obtain ⟨wN, hwN, rfl⟩ := inR_t (by decide) r_w
        have ewN : cn (nI wN) = wN := cn_nI (by omega)
        have mw : ¬ nI wN = -1 := m1n (by omega)
        refine r_iload_n rfl 28 rfl d_HB_plan_27 ?_
        refine r_if_eqN wN (by omega) 31 41 rfl rfl d_HB_plan_28 (fun h28 => ?_) (fun h28 => ?_)
        · have c28 : cn (nI wN) = 0 := by rw [ewN]; exact h28
          by_cases hm : ν 11 1 = 10
          · have hq : 50 < 5 * (ν 11 1) + 5 := by omega
            have hq2 : ν 11 1 < 1000 := by omega
            refine r_aload_n rfl 42 rfl d_HB_plan_41 ?_
            refine r_getf (v := .ref (a 1)) gf_HB_12 0 rfl rfl 45 rfl d_HB_plan_42 ?_
            refine r_getfn (v := .ref (a 11)) gf_HB_206 1 rfl rfl 48 rfl d_HB_plan_45 ?_
            refine r_iload_n rfl 49 rfl d_HB_plan_48 ?_
            refine r_iload_n rfl 50 rfl d_HB_plan_49 ?_
            refine r_iconst (nI 0) rfl 51 rfl d_HB_plan_50 ?_
            refine r_iconst (nI 0) rfl 52 rfl d_HB_plan_51 ?_
            refine r_iconst (nI 0) rfl 53 rfl d_HB_plan_52 ?_
            refine r_callV1 (st2 := [.int (nI 0)]) (w2 := CW X a ν σ τ) lk_Rws_add ln_HB_182 (c_Rws_add0 X 50 (pl [11, 12] a) (pl [11, 12] ν) (pl [11, 12] σ) (pl [11, 12] τ) (nI wN) p (nI 0) (nI 0) (nI 0) hq (by decide) hq2) (by first | decide | omega) rfl rfl (Nat.le_of_ble_eq_true rfl) (Nat.le_of_ble_eq_true rfl) (Nat.le_of_ble_eq_true rfl) [11, 12] rfl rfl 0 rfl rfl rfl rfl rfl 56 rfl d_HB_plan_53 ?_
            refine r_if_eqN_t 0 (by omega) 72 rfl d_HB_plan_56 (by decide) ?_
            refine r_bipush ((-4)) rfl 74 rfl d_HB_plan_72 ?_
            exact r_iret rfl (Nat.zero_le _) (Nat.zero_le _) d_HB_plan_74 (by rw [← hQ]; exact ⟨by simp [R_plan, h2, r_w, mw, c28, hm], by first | (simp [N_plan, b_plan, u1_self, pu_self, up5, h2, r_w, mw, c28, hm]; done) | (simp [N_plan, b_plan, u1_self, pu_self, up5, h2, r_w, mw, c28, hm]; rw [← hm, u1_self, pu_self])⟩)
          · have hq : 5 * (ν 11 1) + 5 ≤ 50 := by omega
            have hq2 : ν 11 1 < 1000 := by omega
            refine r_aload_n rfl 42 rfl d_HB_plan_41 ?_
            refine r_getf (v := .ref (a 1)) gf_HB_12 0 rfl rfl 45 rfl d_HB_plan_42 ?_
            refine r_getfn (v := .ref (a 11)) gf_HB_206 1 rfl rfl 48 rfl d_HB_plan_45 ?_
            refine r_iload_n rfl 49 rfl d_HB_plan_48 ?_
            refine r_iload_n rfl 50 rfl d_HB_plan_49 ?_
            refine r_iconst (nI 0) rfl 51 rfl d_HB_plan_50 ?_
            refine r_iconst (nI 0) rfl 52 rfl d_HB_plan_51 ?_
            refine r_iconst (nI 0) rfl 53 rfl d_HB_plan_52 ?_
            refine r_callV1 (st2 := [.int (nI 1)]) (w2 := CW X a (pu ν 11 (u1 (ν 11) 1 ((ν 11 1) + 1))) (u2 σ 12 (upd (upd (upd (upd (upd ((σ 12)) (5 * (ν 11 1)) (nI wN)) (5 * (ν 11 1) + 1) p) (5 * (ν 11 1) + 2) (nI 0)) (5 * (ν 11 1) + 3) (nI 0)) (5 * (ν 11 1) + 4) (nI 0))) τ) lk_Rws_add ln_HB_182 (c_Rws_add1 X 50 (pl [11, 12] a) (pl [11, 12] ν) (pl [11, 12] σ) (pl [11, 12] τ) (nI wN) p (nI 0) (nI 0) (nI 0) hq (by decide) hq2) (by first | decide | omega) rfl rfl (Nat.le_of_ble_eq_true rfl) (Nat.le_of_ble_eq_true rfl) (Nat.le_of_ble_eq_true rfl) [11, 12] rfl rfl 0 rfl rfl rfl rfl rfl 56 rfl d_HB_plan_53 ?_
            refine r_if_eqN_f 1 (by omega) 59 rfl 72 rfl d_HB_plan_56 (by decide) ?_
            refine r_aload_n rfl 60 rfl d_HB_plan_59 ?_
            refine r_getf (v := .ref (a 1)) gf_HB_12 0 rfl rfl 63 rfl d_HB_plan_60 ?_
            refine r_getfn (v := .ref (a 11)) gf_HB_206 1 rfl rfl 66 rfl d_HB_plan_63 ?_
            refine r_getfn (v := .int (nI ((ν 11 1) + 1))) gf_HB_179 11 rfl rfl 69 rfl d_HB_plan_66 ?_
            refine r_goto 74 rfl d_HB_plan_69 ?_
            exact r_iret rfl (Nat.zero_le _) (Nat.zero_le _) d_HB_plan_74 (by rw [← hQ]; exact ⟨by simp [R_plan, h2, r_w, mw, c28, hm], by first | (simp [N_plan, b_plan, u1_self, pu_self, up5, h2, r_w, mw, c28, hm]; done) | (simp [N_plan, b_plan, u1_self, pu_self, up5, h2, r_w, mw, c28, hm]; rw [← hm, u1_self, pu_self])⟩)
        · refine r_aload_n rfl 32 rfl d_HB_plan_31 ?_
          refine r_iload_n rfl 33 rfl d_HB_plan_32 ?_
          refine r_callVA1 (st2 := [.int (bI (isB (ν 2 3) p))]) (w2 := CW X a ν σ τ) lk_HB_isTrader ln_HB_60 (c_HB_isTrader X a ν σ τ  p (hn6)) (by first | decide | omega) rfl rfl (Nat.le_of_ble_eq_true rfl) (Nat.le_of_ble_eq_true rfl) (Nat.le_of_ble_eq_true rfl) 0 rfl rfl rfl rfl 36 rfl d_HB_plan_33 ?_
          refine r_if_neB 39 41 rfl rfl d_HB_plan_36 (fun h36 => ?_) (fun h36 => ?_)
          · obtain ⟨pN, hpN, rfl⟩ := isB_t hn6 h36
            have epN : cn (nI pN) = pN := cn_nI (by omega)
            have bp := isB_of hn6 hpN
            by_cases hm : ν 11 1 = 10
            · have hq : 50 < 5 * (ν 11 1) + 5 := by omega
              have hq2 : ν 11 1 < 1000 := by omega
              refine r_aload_n rfl 42 rfl d_HB_plan_41 ?_
              refine r_getf (v := .ref (a 1)) gf_HB_12 0 rfl rfl 45 rfl d_HB_plan_42 ?_
              refine r_getfn (v := .ref (a 11)) gf_HB_206 1 rfl rfl 48 rfl d_HB_plan_45 ?_
              refine r_iload_n rfl 49 rfl d_HB_plan_48 ?_
              refine r_iload_n rfl 50 rfl d_HB_plan_49 ?_
              refine r_iconst (nI 0) rfl 51 rfl d_HB_plan_50 ?_
              refine r_iconst (nI 0) rfl 52 rfl d_HB_plan_51 ?_
              refine r_iconst (nI 0) rfl 53 rfl d_HB_plan_52 ?_
              refine r_callV1 (st2 := [.int (nI 0)]) (w2 := CW X a ν σ τ) lk_Rws_add ln_HB_182 (c_Rws_add0 X 50 (pl [11, 12] a) (pl [11, 12] ν) (pl [11, 12] σ) (pl [11, 12] τ) (nI wN) (nI pN) (nI 0) (nI 0) (nI 0) hq (by decide) hq2) (by first | decide | omega) rfl rfl (Nat.le_of_ble_eq_true rfl) (Nat.le_of_ble_eq_true rfl) (Nat.le_of_ble_eq_true rfl) [11, 12] rfl rfl 0 rfl rfl rfl rfl rfl 56 rfl d_HB_plan_53 ?_
              refine r_if_eqN_t 0 (by omega) 72 rfl d_HB_plan_56 (by decide) ?_
              refine r_bipush ((-4)) rfl 74 rfl d_HB_plan_72 ?_
              exact r_iret rfl (Nat.zero_le _) (Nat.zero_le _) d_HB_plan_74 (by rw [← hQ]; exact ⟨by simp [R_plan, h2, r_w, ewN, mw, h28, epN, bp, hm], by first | (simp [N_plan, b_plan, u1_self, pu_self, up5, h2, r_w, ewN, mw, h28, epN, bp, hm]; done) | (simp [N_plan, b_plan, u1_self, pu_self, up5, h2, r_w, ewN, mw, h28, epN, bp, hm]; rw [← hm, u1_self, pu_self])⟩)
            · have hq : 5 * (ν 11 1) + 5 ≤ 50 := by omega
              have hq2 : ν 11 1 < 1000 := by omega
              refine r_aload_n rfl 42 rfl d_HB_plan_41 ?_
              refine r_getf (v := .ref (a 1)) gf_HB_12 0 rfl rfl 45 rfl d_HB_plan_42 ?_
              refine r_getfn (v := .ref (a 11)) gf_HB_206 1 rfl rfl 48 rfl d_HB_plan_45 ?_
              refine r_iload_n rfl 49 rfl d_HB_plan_48 ?_
              refine r_iload_n rfl 50 rfl d_HB_plan_49 ?_
              refine r_iconst (nI 0) rfl 51 rfl d_HB_plan_50 ?_
              refine r_iconst (nI 0) rfl 52 rfl d_HB_plan_51 ?_
              refine r_iconst (nI 0) rfl 53 rfl d_HB_plan_52 ?_
              refine r_callV1 (st2 := [.int (nI 1)]) (w2 := CW X a (pu ν 11 (u1 (ν 11) 1 ((ν 11 1) + 1))) (u2 σ 12 (upd (upd (upd (upd (upd ((σ 12)) (5 * (ν 11 1)) (nI wN)) (5 * (ν 11 1) + 1) (nI pN)) (5 * (ν 11 1) + 2) (nI 0)) (5 * (ν 11 1) + 3) (nI 0)) (5 * (ν 11 1) + 4) (nI 0))) τ) lk_Rws_add ln_HB_182 (c_Rws_add1 X 50 (pl [11, 12] a) (pl [11, 12] ν) (pl [11, 12] σ) (pl [11, 12] τ) (nI wN) (nI pN) (nI 0) (nI 0) (nI 0) hq (by decide) hq2) (by first | decide | omega) rfl rfl (Nat.le_of_ble_eq_true rfl) (Nat.le_of_ble_eq_true rfl) (Nat.le_of_ble_eq_true rfl) [11, 12] rfl rfl 0 rfl rfl rfl rfl rfl 56 rfl d_HB_plan_53 ?_
              refine r_if_eqN_f 1 (by omega) 59 rfl 72 rfl d_HB_plan_56 (by decide) ?_
              refine r_aload_n rfl 60 rfl d_HB_plan_59 ?_
              refine r_getf (v := .ref (a 1)) gf_HB_12 0 rfl rfl 63 rfl d_HB_plan_60 ?_
              refine r_getfn (v := .ref (a 11)) gf_HB_206 1 rfl rfl 66 rfl d_HB_plan_63 ?_
              refine r_getfn (v := .int (nI ((ν 11 1) + 1))) gf_HB_179 11 rfl rfl 69 rfl d_HB_plan_66 ?_
              refine r_goto 74 rfl d_HB_plan_69 ?_
              exact r_iret rfl (Nat.zero_le _) (Nat.zero_le _) d_HB_plan_74 (by rw [← hQ]; exact ⟨by simp [R_plan, h2, r_w, ewN, mw, h28, epN, bp, hm], by first | (simp [N_plan, b_plan, u1_self, pu_self, up5, h2, r_w, ewN, mw, h28, epN, bp, hm]; done) | (simp [N_plan, b_plan, u1_self, pu_self, up5, h2, r_w, ewN, mw, h28, epN, bp, hm]; rw [← hm, u1_self, pu_self])⟩)
          · refine r_iconst ((-1)) rfl 40 rfl d_HB_plan_39 ?_
            exact r_iret rfl (Nat.zero_le _) (Nat.zero_le _) d_HB_plan_40 (by rw [← hQ]; exact ⟨by simp [R_plan, h2, r_w, ewN, mw, h28, h36], by first | (simp [N_plan, b_plan, u1_self, pu_self, up5, h2, r_w, ewN, mw, h28, h36]; done) | (simp [N_plan, b_plan, u1_self, pu_self, up5, h2, r_w, ewN, mw, h28, h36]; rw [← hm, u1_self, pu_self])⟩)
  · refine r_aload_n rfl 6 rfl d_HB_plan_5 ?_
    refine r_getf (v := .ref (a 1)) gf_HB_12 0 rfl rfl 9 rfl d_HB_plan_6 ?_
    refine r_getfn (v := .ref (a 11)) gf_HB_206 1 rfl rfl 12 rfl d_HB_plan_9 ?_
    refine r_iconst (nI 0) rfl 13 rfl d_HB_plan_12 ?_
    refine r_putfn (w2 := CW X a (pu ν 11 (u1 (ν 11) 1 0)) σ τ) pf_HB_179 11 rfl (rfl) rfl (Nat.le_of_ble_eq_true rfl) rfl 16 rfl d_HB_plan_13 ?_
    refine r_iconst (nI 0) rfl 17 rfl d_HB_plan_16 ?_
    exact r_iret rfl (Nat.zero_le _) (Nat.zero_le _) d_HB_plan_17 (by rw [← hQ]; exact ⟨by simp [R_plan, h2], by first | (simp [N_plan, b_plan, u1_self, pu_self, up5, h2]; done) | (simp [N_plan, b_plan, u1_self, pu_self, up5, h2]; rw [← hm, u1_self, pu_self])⟩)
theorem c_HB_looked (X : Xn) (a : Nat → Nat) (ν : Nat → Nat → Nat) (σ : Nat → Nat → Int32) (τ : Nat → Nat → Int64)   (hbk : bookOk (σ 14) (ν 13 1)) : Does X 4 M_HB_looked [.ref (a 0)] (CW X a ν σ τ) 0 0 (fun (vv : Option Value) (ww : va_W) => vv = some (.int (lookF (σ 4) (col (σ 14) 0) (col (σ 14) 1) (col (σ 14) 2) (ν 13 1) (ν 13 1))) ∧ ww = CW X a ν σ τ) := by
  generalize hQ : (fun (vv : Option Value) (ww : va_W) => vv = some (.int (lookF (σ 4) (col (σ 14) 0) (col (σ 14) 1) (col (σ 14) 2) (ν 13 1) (ν 13 1))) ∧ ww = CW X a ν σ τ) = Q
  refine Does.go rfl (Nat.le_of_ble_eq_true rfl) [some (.ref (a 0)), none] 1 rfl ?_
  have h8 := hbk.1
  refine r_iconst (nI 0) rfl 1 rfl d_HB_looked_0 ?_
  refine r_istore_n (ls2 := [some (.ref (a 0)), some (.int (nI 0))]) 2 rfl d_HB_looked_1 (by decide) rfl rfl ?_
  have L2_1 : ∀ (f : Nat) (i : Nat), (i ≤ ν 13 1) → (lookF (σ 4) (col (σ 14) 0) (col (σ 14) 1) (col (σ 14) 2) (ν 13 1) (ν 13 1 - i) = lookF (σ 4) (col (σ 14) 0) (col (σ 14) 1) (col (σ 14) 2) (ν 13 1) (ν 13 1)) → ν 13 1 - i < f → Runs X 4 M_HB_looked 0 0 Q 2 [some (.ref (a 0)), some (.int (nI i))] [] 0 0 (CW X a ν σ τ) := by
    intro f
    induction f with
    | zero => intro i hi hr hmu; exact absurd hmu (Nat.not_lt_zero _)
    | succ f ih2 =>
      intro i hi hr hmu
      refine r_iload_n rfl 3 rfl d_HB_looked_2 ?_
      refine r_aload_n rfl 4 rfl d_HB_looked_3 ?_
      refine r_getf (v := .ref (a 1)) gf_HB_12 0 rfl rfl 7 rfl d_HB_looked_4 ?_
      refine r_getfn (v := .ref (a 13)) gf_HB_217 1 rfl rfl 10 rfl d_HB_looked_7 ?_
      refine r_getfn (v := .int (nI (ν 13 1))) gf_HB_179 13 rfl rfl 13 rfl d_HB_looked_10 ?_
      refine r_icmp_geN i (ν 13 1) (by omega) (by omega) 16 73 rfl rfl d_HB_looked_13 (fun h13 => ?_) (fun h13 => ?_)
      · refine r_bipush ((-5)) rfl 75 rfl d_HB_looked_73 ?_
        exact r_iret rfl (Nat.zero_le _) (Nat.zero_le _) d_HB_looked_75 (by rw [← hQ]; exact ⟨by rw [← hr, show ν 13 1 - i = 0 by omega]; rfl, rfl⟩)
      · obtain ⟨P, R, hP, hR, e0, e1⟩ := hbk.2 i (by omega)
        refine r_aload_n rfl 17 rfl d_HB_looked_16 ?_
        refine r_getf (v := .ref (a 1)) gf_HB_12 0 rfl rfl 20 rfl d_HB_looked_17 ?_
        refine r_getfn (v := .ref (a 2)) gf_HB_49 1 rfl rfl 23 rfl d_HB_looked_20 ?_
        refine r_aload_n rfl 24 rfl d_HB_looked_23 ?_
        refine r_getf (v := .ref (a 1)) gf_HB_12 0 rfl rfl 27 rfl d_HB_looked_24 ?_
        refine r_getfn (v := .ref (a 13)) gf_HB_217 1 rfl rfl 30 rfl d_HB_looked_27 ?_
        refine r_iload_n rfl 31 rfl d_HB_looked_30 ?_
        refine r_iconst (nI 0) rfl 32 rfl d_HB_looked_31 ?_
        refine r_callV1 (st2 := [.int ((σ 14) (5 * i + 0)), .ref (a 2)]) (w2 := CW X a ν σ τ) lk_Rws_cell ln_HB_186 (c_Rws_cell X 40 (pl [13, 14] a) (pl [13, 14] ν) (pl [13, 14] σ) (pl [13, 14] τ)  i 0 (by omega) (by decide)) (by first | decide | omega) rfl rfl (Nat.le_of_ble_eq_true rfl) (Nat.le_of_ble_eq_true rfl) (Nat.le_of_ble_eq_true rfl) [13, 14] rfl rfl 0 rfl rfl rfl rfl rfl 35 rfl d_HB_looked_32 ?_
        refine r_topi (nI (P)) (e0) ?_
        refine r_aload_n rfl 36 rfl d_HB_looked_35 ?_
        refine r_getf (v := .ref (a 1)) gf_HB_12 0 rfl rfl 39 rfl d_HB_looked_36 ?_
        refine r_getfn (v := .ref (a 13)) gf_HB_217 1 rfl rfl 42 rfl d_HB_looked_39 ?_
        refine r_iload_n rfl 43 rfl d_HB_looked_42 ?_
        refine r_iconst (nI 1) rfl 44 rfl d_HB_looked_43 ?_
        refine r_callV1 (st2 := [.int ((σ 14) (5 * i + 1)), .int (nI P), .ref (a 2)]) (w2 := CW X a ν σ τ) lk_Rws_cell ln_HB_186 (c_Rws_cell X 40 (pl [13, 14] a) (pl [13, 14] ν) (pl [13, 14] σ) (pl [13, 14] τ)  i 1 (by omega) (by decide)) (by first | decide | omega) rfl rfl (Nat.le_of_ble_eq_true rfl) (Nat.le_of_ble_eq_true rfl) (Nat.le_of_ble_eq_true rfl) [13, 14] rfl rfl 0 rfl rfl rfl rfl rfl 47 rfl d_HB_looked_44 ?_
        refine r_topi (nI (R)) (e1) ?_
        refine r_callV1 (st2 := [.int ((σ 4) (6 * P + R))]) (w2 := CW X a ν σ τ) lk_Led_debt ln_HB_98 (c_Led_debt X (pl [2, 3, 4, 5] a) (pl [2, 3, 4, 5] ν) (pl [2, 3, 4, 5] σ) (pl [2, 3, 4, 5] τ)  P R (by omega) (by omega)) (by first | decide | omega) rfl rfl (Nat.le_of_ble_eq_true rfl) (Nat.le_of_ble_eq_true rfl) (Nat.le_of_ble_eq_true rfl) [2, 3, 4, 5] rfl rfl 0 rfl rfl rfl rfl rfl 50 rfl d_HB_looked_47 ?_
        refine r_aload_n rfl 51 rfl d_HB_looked_50 ?_
        refine r_getf (v := .ref (a 1)) gf_HB_12 0 rfl rfl 54 rfl d_HB_looked_51 ?_
        refine r_getfn (v := .ref (a 13)) gf_HB_217 1 rfl rfl 57 rfl d_HB_looked_54 ?_
        refine r_iload_n rfl 58 rfl d_HB_looked_57 ?_
        refine r_iconst (nI 2) rfl 59 rfl d_HB_looked_58 ?_
        refine r_callV1 (st2 := [.int ((σ 14) (5 * i + 2)), .int ((σ 4) (6 * P + R))]) (w2 := CW X a ν σ τ) lk_Rws_cell ln_HB_186 (c_Rws_cell X 40 (pl [13, 14] a) (pl [13, 14] ν) (pl [13, 14] σ) (pl [13, 14] τ)  i 2 (by omega) (by decide)) (by first | decide | omega) rfl rfl (Nat.le_of_ble_eq_true rfl) (Nat.le_of_ble_eq_true rfl) (Nat.le_of_ble_eq_true rfl) [13, 14] rfl rfl 0 rfl rfl rfl rfl rfl 62 rfl d_HB_looked_59 ?_
        refine r_icmp_eq 65 67 rfl rfl d_HB_looked_62 (fun h62 => ?_) (fun h62 => ?_)
        · refine r_iinc (ls2 := [some (.ref (a 0)), some (.int (nI (i + 1)))]) (nI (i + 1)) rfl (nI_1 _) 70 rfl d_HB_looked_67 (by decide) rfl rfl ?_
          refine r_goto 2 rfl d_HB_looked_70 ?_
          exact ih2 (i + 1) (by omega) (by rw [← hr, lookG_s (show i < ν 13 1 by omega)]; unfold col; rw [e0, e1, cn_nI (by omega), cn_nI (by omega), if_pos h62]) (by omega)
        · refine r_iload_n rfl 66 rfl d_HB_looked_65 ?_
          exact r_iret rfl (Nat.zero_le _) (Nat.zero_le _) d_HB_looked_66 (by rw [← hQ]; exact ⟨by rw [← hr, lookG_s (show i < ν 13 1 by omega)]; unfold col; rw [e0, e1, cn_nI (by omega), cn_nI (by omega), if_neg h62], rfl⟩)
  exact L2_1 _ 0 (Nat.zero_le _) (rfl) (Nat.lt_succ_self _)
