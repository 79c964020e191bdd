def M_HB_at : XM := (⟨"HandshakeBinds", "at", "([II)I"⟩, prog_1_method_39_code, 2, (some .int))
theorem d_HB_at_0 : decode M_HB_at.2.1 0 = .ok (.iload_n 1, 1) := by decide +kernel
theorem d_HB_at_1 : decode M_HB_at.2.1 1 = .ok (.ifCond .lt 15, 3) := by decide +kernel
theorem d_HB_at_4 : decode M_HB_at.2.1 4 = .ok (.iload_n 1, 1) := by decide +kernel
theorem d_HB_at_5 : decode M_HB_at.2.1 5 = .ok (.aload_n 0, 1) := by decide +kernel
theorem d_HB_at_6 : decode M_HB_at.2.1 6 = .ok (.arraylength, 1) := by decide +kernel
theorem d_HB_at_7 : decode M_HB_at.2.1 7 = .ok (.if_icmp .ge 9, 3) := by decide +kernel
theorem d_HB_at_10 : decode M_HB_at.2.1 10 = .ok (.aload_n 0, 1) := by decide +kernel
theorem d_HB_at_11 : decode M_HB_at.2.1 11 = .ok (.iload_n 1, 1) := by decide +kernel
theorem d_HB_at_12 : decode M_HB_at.2.1 12 = .ok (.iaload, 1) := by decide +kernel
theorem d_HB_at_13 : decode M_HB_at.2.1 13 = .ok (.goto 4, 3) := by decide +kernel
theorem d_HB_at_17 : decode M_HB_at.2.1 17 = .ok (.ireturn, 1) := by decide +kernel
def M_HB_put : XM := (⟨"HandshakeBinds", "put", "([III)V"⟩, prog_1_method_40_code, 3, none)
theorem d_HB_put_0 : decode M_HB_put.2.1 0 = .ok (.iload_n 1, 1) := by decide +kernel
theorem d_HB_put_1 : decode M_HB_put.2.1 1 = .ok (.ifCond .lt 13, 3) := by decide +kernel
theorem d_HB_put_4 : decode M_HB_put.2.1 4 = .ok (.iload_n 1, 1) := by decide +kernel
theorem d_HB_put_5 : decode M_HB_put.2.1 5 = .ok (.aload_n 0, 1) := by decide +kernel
theorem d_HB_put_6 : decode M_HB_put.2.1 6 = .ok (.arraylength, 1) := by decide +kernel
theorem d_HB_put_7 : decode M_HB_put.2.1 7 = .ok (.if_icmp .ge 7, 3) := by decide +kernel
theorem d_HB_put_10 : decode M_HB_put.2.1 10 = .ok (.aload_n 0, 1) := by decide +kernel
theorem d_HB_put_11 : decode M_HB_put.2.1 11 = .ok (.iload_n 1, 1) := by decide +kernel
theorem d_HB_put_12 : decode M_HB_put.2.1 12 = .ok (.iload_n 2, 1) := by decide +kernel
theorem d_HB_put_13 : decode M_HB_put.2.1 13 = .ok (.iastore, 1) := by decide +kernel
theorem d_HB_put_14 : decode M_HB_put.2.1 14 = .ok (.return_, 1) := by decide +kernel
def M_HB_hasBit : XM := (⟨"HandshakeBinds", "hasBit", "(II)Z"⟩, prog_1_method_41_code, 2, (some .boolean))
theorem d_HB_hasBit_0 : decode M_HB_hasBit.2.1 0 = .ok (.iload_n 0, 1) := by decide +kernel
theorem d_HB_hasBit_1 : decode M_HB_hasBit.2.1 1 = .ok (.iload_n 1, 1) := by decide +kernel
theorem d_HB_hasBit_2 : decode M_HB_hasBit.2.1 2 = .ok (.ishr, 1) := by decide +kernel
theorem d_HB_hasBit_3 : decode M_HB_hasBit.2.1 3 = .ok (.iconst 1, 1) := by decide +kernel
theorem d_HB_hasBit_4 : decode M_HB_hasBit.2.1 4 = .ok (.iand, 1) := by decide +kernel
theorem d_HB_hasBit_5 : decode M_HB_hasBit.2.1 5 = .ok (.ifCond .eq 7, 3) := by decide +kernel
theorem d_HB_hasBit_12 : decode M_HB_hasBit.2.1 12 = .ok (.iconst 0, 1) := by decide +kernel
theorem d_HB_hasBit_13 : decode M_HB_hasBit.2.1 13 = .ok (.ireturn, 1) := by decide +kernel
theorem d_HB_hasBit_8 : decode M_HB_hasBit.2.1 8 = .ok (.iconst 1, 1) := by decide +kernel
theorem d_HB_hasBit_9 : decode M_HB_hasBit.2.1 9 = .ok (.goto 4, 3) := by decide +kernel
def M_Led_debt : XM := (⟨"HandshakeBinds$Ledger", "debt", "(II)I"⟩, prog_5_method_4_code, 3, (some .int))
theorem d_Led_debt_0 : decode M_Led_debt.2.1 0 = .ok (.aload_n 0, 1) := by decide +kernel
theorem d_Led_debt_1 : decode M_Led_debt.2.1 1 = .ok (.getfield 15, 3) := by decide +kernel
theorem gf_Led_15 : GF "HandshakeBinds$Ledger" 15 2 1 := ⟨_, _, _, rfl, by decide, i_Led, inTB 102 (by decide +kernel) rfl⟩
theorem d_Led_debt_4 : decode M_Led_debt.2.1 4 = .ok (.iload_n 1, 1) := by decide +kernel
theorem d_Led_debt_5 : decode M_Led_debt.2.1 5 = .ok (.bipush 6, 2) := by decide +kernel
theorem d_Led_debt_7 : decode M_Led_debt.2.1 7 = .ok (.imul, 1) := by decide +kernel
theorem d_Led_debt_8 : decode M_Led_debt.2.1 8 = .ok (.iload_n 2, 1) := by decide +kernel
theorem d_Led_debt_9 : decode M_Led_debt.2.1 9 = .ok (.iadd, 1) := by decide +kernel
theorem d_Led_debt_10 : decode M_Led_debt.2.1 10 = .ok (.invokestatic 35, 3) := by decide +kernel
theorem ln_Led_35 : Cond.methodLinkNest "HandshakeBinds$Ledger" 35 M_HB_at.1 "HandshakeBinds" ∈ NW := inNW 375 (by decide +kernel) rfl
theorem lk_HB_at : LSt M_HB_at 2 := ⟨⟨inTB 62 (by decide +kernel) rfl, inTB 366 (by decide +kernel) rfl, ⟨by decide, by decide, by decide +kernel⟩, by decide⟩, inTB 365 (by decide +kernel) rfl⟩
theorem d_Led_debt_13 : decode M_Led_debt.2.1 13 = .ok (.ireturn, 1) := by decide +kernel
def M_Led_setDebt : XM := (⟨"HandshakeBinds$Ledger", "setDebt", "(III)V"⟩, prog_5_method_5_code, 4, none)
theorem d_Led_setDebt_0 : decode M_Led_setDebt.2.1 0 = .ok (.aload_n 0, 1) := by decide +kernel
theorem d_Led_setDebt_1 : decode M_Led_setDebt.2.1 1 = .ok (.getfield 15, 3) := by decide +kernel
theorem d_Led_setDebt_4 : decode M_Led_setDebt.2.1 4 = .ok (.iload_n 1, 1) := by decide +kernel
theorem d_Led_setDebt_5 : decode M_Led_setDebt.2.1 5 = .ok (.bipush 6, 2) := by decide +kernel
theorem d_Led_setDebt_7 : decode M_Led_setDebt.2.1 7 = .ok (.imul, 1) := by decide +kernel
theorem d_Led_setDebt_8 : decode M_Led_setDebt.2.1 8 = .ok (.iload_n 2, 1) := by decide +kernel
theorem d_Led_setDebt_9 : decode M_Led_setDebt.2.1 9 = .ok (.iadd, 1) := by decide +kernel
theorem d_Led_setDebt_10 : decode M_Led_setDebt.2.1 10 = .ok (.iload_n 3, 1) := by decide +kernel
theorem d_Led_setDebt_11 : decode M_Led_setDebt.2.1 11 = .ok (.invokestatic 31, 3) := by decide +kernel
theorem ln_Led_31 : Cond.methodLinkNest "HandshakeBinds$Ledger" 31 M_HB_put.1 "HandshakeBinds" ∈ NW := inNW 354 (by decide +kernel) rfl
theorem lk_HB_put : LSt M_HB_put 3 := ⟨⟨inTB 62 (by decide +kernel) rfl, inTB 349 (by decide +kernel) rfl, ⟨by decide, by decide, by decide +kernel⟩, by decide⟩, inTB 348 (by decide +kernel) rfl⟩
theorem d_Led_setDebt_14 : decode M_Led_setDebt.2.1 14 = .ok (.return_, 1) := by decide +kernel
def M_Led_owesAll : XM := (⟨"HandshakeBinds$Ledger", "owesAll", "(I)I"⟩, prog_5_method_6_code, 4, (some .int))
theorem d_Led_owesAll_0 : decode M_Led_owesAll.2.1 0 = .ok (.iconst 0, 1) := by decide +kernel
theorem d_Led_owesAll_1 : decode M_Led_owesAll.2.1 1 = .ok (.istore_n 2, 1) := by decide +kernel
theorem d_Led_owesAll_2 : decode M_Led_owesAll.2.1 2 = .ok (.iconst 0, 1) := by decide +kernel
theorem d_Led_owesAll_3 : decode M_Led_owesAll.2.1 3 = .ok (.istore_n 3, 1) := by decide +kernel
theorem d_Led_owesAll_4 : decode M_Led_owesAll.2.1 4 = .ok (.iload_n 3, 1) := by decide +kernel
theorem d_Led_owesAll_5 : decode M_Led_owesAll.2.1 5 = .ok (.aload_n 0, 1) := by decide +kernel
theorem d_Led_owesAll_6 : decode M_Led_owesAll.2.1 6 = .ok (.getfield 27, 3) := by decide +kernel
theorem gf_Led_27 : GF "HandshakeBinds$Ledger" 27 2 3 := ⟨_, _, _, rfl, by decide, i_Led, inTB 105 (by decide +kernel) rfl⟩
theorem d_Led_owesAll_9 : decode M_Led_owesAll.2.1 9 = .ok (.if_icmp .ge 18, 3) := by decide +kernel
theorem d_Led_owesAll_27 : decode M_Led_owesAll.2.1 27 = .ok (.iload_n 2, 1) := by decide +kernel
theorem d_Led_owesAll_28 : decode M_Led_owesAll.2.1 28 = .ok (.ireturn, 1) := by decide +kernel
theorem d_Led_owesAll_12 : decode M_Led_owesAll.2.1 12 = .ok (.iload_n 2, 1) := by decide +kernel
theorem d_Led_owesAll_13 : decode M_Led_owesAll.2.1 13 = .ok (.aload_n 0, 1) := by decide +kernel
theorem d_Led_owesAll_14 : decode M_Led_owesAll.2.1 14 = .ok (.iload_n 1, 1) := by decide +kernel
theorem d_Led_owesAll_15 : decode M_Led_owesAll.2.1 15 = .ok (.iload_n 3, 1) := by decide +kernel
theorem d_Led_owesAll_16 : decode M_Led_owesAll.2.1 16 = .ok (.invokevirtual 39, 3) := by decide +kernel
theorem ln_Led_39 : Cond.methodLink "HandshakeBinds$Ledger" 39 M_Led_debt.1 ∈ TB := inTB 371 (by decide +kernel) rfl
theorem lk_Led_debt : LVt M_Led_debt 2 := ⟨⟨inTB 64 (by decide +kernel) rfl, inTB 374 (by decide +kernel) rfl, ⟨by decide, by decide, by decide +kernel⟩, by decide⟩, inTB 372 (by decide +kernel) rfl, inTB 373 (by decide +kernel) rfl⟩
theorem d_Led_owesAll_19 : decode M_Led_owesAll.2.1 19 = .ok (.iadd, 1) := by decide +kernel
theorem d_Led_owesAll_20 : decode M_Led_owesAll.2.1 20 = .ok (.istore_n 2, 1) := by decide +kernel
theorem d_Led_owesAll_21 : decode M_Led_owesAll.2.1 21 = .ok (.iinc 3 1, 3) := by decide +kernel
theorem d_Led_owesAll_24 : decode M_Led_owesAll.2.1 24 = .ok (.goto (-20), 3) := by decide +kernel
def M_Led_owedBy : XM := (⟨"HandshakeBinds$Ledger", "owedBy", "(II)I"⟩, prog_5_method_7_code, 5, (some .int))
theorem d_Led_owedBy_0 : decode M_Led_owedBy.2.1 0 = .ok (.iconst 0, 1) := by decide +kernel
theorem d_Led_owedBy_1 : decode M_Led_owedBy.2.1 1 = .ok (.istore_n 3, 1) := by decide +kernel
theorem d_Led_owedBy_2 : decode M_Led_owedBy.2.1 2 = .ok (.iconst 0, 1) := by decide +kernel
theorem d_Led_owedBy_3 : decode M_Led_owedBy.2.1 3 = .ok (.istore 4, 2) := by decide +kernel
theorem d_Led_owedBy_5 : decode M_Led_owedBy.2.1 5 = .ok (.iload 4, 2) := by decide +kernel
theorem d_Led_owedBy_7 : decode M_Led_owedBy.2.1 7 = .ok (.aload_n 0, 1) := by decide +kernel
theorem d_Led_owedBy_8 : decode M_Led_owedBy.2.1 8 = .ok (.getfield 27, 3) := by decide +kernel
theorem d_Led_owedBy_11 : decode M_Led_owedBy.2.1 11 = .ok (.if_icmp .ge 28, 3) := by decide +kernel
theorem d_Led_owedBy_39 : decode M_Led_owedBy.2.1 39 = .ok (.iload_n 3, 1) := by decide +kernel
theorem d_Led_owedBy_40 : decode M_Led_owedBy.2.1 40 = .ok (.ireturn, 1) := by decide +kernel
theorem d_Led_owedBy_14 : decode M_Led_owedBy.2.1 14 = .ok (.iload_n 2, 1) := by decide +kernel
theorem d_Led_owedBy_15 : decode M_Led_owedBy.2.1 15 = .ok (.iload 4, 2) := by decide +kernel
theorem d_Led_owedBy_17 : decode M_Led_owedBy.2.1 17 = .ok (.invokestatic 43, 3) := by decide +kernel
theorem ln_Led_43 : Cond.methodLinkNest "HandshakeBinds$Ledger" 43 M_HB_hasBit.1 "HandshakeBinds" ∈ NW := inNW 380 (by decide +kernel) rfl
theorem lk_HB_hasBit : LSt M_HB_hasBit 2 := ⟨⟨inTB 62 (by decide +kernel) rfl, inTB 382 (by decide +kernel) rfl, ⟨by decide, by decide, by decide +kernel⟩, by decide⟩, inTB 381 (by decide +kernel) rfl⟩
theorem d_Led_owedBy_20 : decode M_Led_owedBy.2.1 20 = .ok (.ifCond .ne 13, 3) := by decide +kernel
theorem d_Led_owedBy_33 : decode M_Led_owedBy.2.1 33 = .ok (.iinc 4 1, 3) := by decide +kernel
theorem d_Led_owedBy_36 : decode M_Led_owedBy.2.1 36 = .ok (.goto (-31), 3) := by decide +kernel
theorem d_Led_owedBy_23 : decode M_Led_owedBy.2.1 23 = .ok (.iload_n 3, 1) := by decide +kernel
theorem d_Led_owedBy_24 : decode M_Led_owedBy.2.1 24 = .ok (.aload_n 0, 1) := by decide +kernel
theorem d_Led_owedBy_25 : decode M_Led_owedBy.2.1 25 = .ok (.iload 4, 2) := by decide +kernel
theorem d_Led_owedBy_27 : decode M_Led_owedBy.2.1 27 = .ok (.iload_n 1, 1) := by decide +kernel
theorem d_Led_owedBy_28 : decode M_Led_owedBy.2.1 28 = .ok (.invokevirtual 39, 3) := by decide +kernel
theorem d_Led_owedBy_31 : decode M_Led_owedBy.2.1 31 = .ok (.iadd, 1) := by decide +kernel
theorem d_Led_owedBy_32 : decode M_Led_owedBy.2.1 32 = .ok (.istore_n 3, 1) := by decide +kernel
def M_Led_balance : XM := (⟨"HandshakeBinds$Ledger", "balance", "(I)I"⟩, prog_5_method_8_code, 2, (some .int))
theorem d_Led_balance_0 : decode M_Led_balance.2.1 0 = .ok (.aload_n 0, 1) := by decide +kernel
theorem d_Led_balance_1 : decode M_Led_balance.2.1 1 = .ok (.iload_n 1, 1) := by decide +kernel
theorem d_Led_balance_2 : decode M_Led_balance.2.1 2 = .ok (.iconst 0, 1) := by decide +kernel
theorem d_Led_balance_3 : decode M_Led_balance.2.1 3 = .ok (.invokevirtual 47, 3) := by decide +kernel
theorem ln_Led_47 : Cond.methodLink "HandshakeBinds$Ledger" 47 M_Led_owedBy.1 ∈ TB := inTB 387 (by decide +kernel) rfl
theorem lk_Led_owedBy : LVt M_Led_owedBy 2 := ⟨⟨inTB 64 (by decide +kernel) rfl, inTB 379 (by decide +kernel) rfl, ⟨by decide, by decide, by decide +kernel⟩, by decide⟩, inTB 377 (by decide +kernel) rfl, inTB 378 (by decide +kernel) rfl⟩
theorem d_Led_balance_6 : decode M_Led_balance.2.1 6 = .ok (.aload_n 0, 1) := by decide +kernel
theorem d_Led_balance_7 : decode M_Led_balance.2.1 7 = .ok (.iload_n 1, 1) := by decide +kernel
theorem d_Led_balance_8 : decode M_Led_balance.2.1 8 = .ok (.invokevirtual 50, 3) := by decide +kernel
theorem ln_Led_50 : Cond.methodLink "HandshakeBinds$Ledger" 50 M_Led_owesAll.1 ∈ TB := inTB 388 (by decide +kernel) rfl
theorem lk_Led_owesAll : LVt M_Led_owesAll 1 := ⟨⟨inTB 64 (by decide +kernel) rfl, inTB 370 (by decide +kernel) rfl, ⟨by decide, by decide, by decide +kernel⟩, by decide⟩, inTB 368 (by decide +kernel) rfl, inTB 369 (by decide +kernel) rfl⟩
theorem d_Led_balance_11 : decode M_Led_balance.2.1 11 = .ok (.isub, 1) := by decide +kernel
theorem d_Led_balance_12 : decode M_Led_balance.2.1 12 = .ok (.ireturn, 1) := by decide +kernel
def M_Led_total : XM := (⟨"HandshakeBinds$Ledger", "total", "()I"⟩, prog_5_method_9_code, 3, (some .int))
theorem d_Led_total_0 : decode M_Led_total.2.1 0 = .ok (.iconst 0, 1) := by decide +kernel
theorem d_Led_total_1 : decode M_Led_total.2.1 1 = .ok (.istore_n 1, 1) := by decide +kernel
theorem d_Led_total_2 : decode M_Led_total.2.1 2 = .ok (.iconst 0, 1) := by decide +kernel
theorem d_Led_total_3 : decode M_Led_total.2.1 3 = .ok (.istore_n 2, 1) := by decide +kernel
theorem d_Led_total_4 : decode M_Led_total.2.1 4 = .ok (.iload_n 2, 1) := by decide +kernel
theorem d_Led_total_5 : decode M_Led_total.2.1 5 = .ok (.aload_n 0, 1) := by decide +kernel
theorem d_Led_total_6 : decode M_Led_total.2.1 6 = .ok (.getfield 27, 3) := by decide +kernel
theorem d_Led_total_9 : decode M_Led_total.2.1 9 = .ok (.if_icmp .ge 17, 3) := by decide +kernel
theorem d_Led_total_26 : decode M_Led_total.2.1 26 = .ok (.iload_n 1, 1) := by decide +kernel
theorem d_Led_total_27 : decode M_Led_total.2.1 27 = .ok (.ireturn, 1) := by decide +kernel
theorem d_Led_total_12 : decode M_Led_total.2.1 12 = .ok (.iload_n 1, 1) := by decide +kernel
theorem d_Led_total_13 : decode M_Led_total.2.1 13 = .ok (.aload_n 0, 1) := by decide +kernel
theorem d_Led_total_14 : decode M_Led_total.2.1 14 = .ok (.iload_n 2, 1) := by decide +kernel
theorem d_Led_total_15 : decode M_Led_total.2.1 15 = .ok (.invokevirtual 50, 3) := by decide +kernel
theorem d_Led_total_18 : decode M_Led_total.2.1 18 = .ok (.iadd, 1) := by decide +kernel
theorem d_Led_total_19 : decode M_Led_total.2.1 19 = .ok (.istore_n 1, 1) := by decide +kernel
theorem d_Led_total_20 : decode M_Led_total.2.1 20 = .ok (.iinc 2 1, 3) := by decide +kernel
theorem d_Led_total_23 : decode M_Led_total.2.1 23 = .ok (.goto (-19), 3) := by decide +kernel
def M_Led_offset : XM := (⟨"HandshakeBinds$Ledger", "offset", "()I"⟩, prog_5_method_10_code, 4, (some .int))
theorem d_Led_offset_0 : decode M_Led_offset.2.1 0 = .ok (.iconst 0, 1) := by decide +kernel
theorem d_Led_offset_1 : decode M_Led_offset.2.1 1 = .ok (.istore_n 1, 1) := by decide +kernel
theorem d_Led_offset_2 : decode M_Led_offset.2.1 2 = .ok (.iconst 0, 1) := by decide +kernel
theorem d_Led_offset_3 : decode M_Led_offset.2.1 3 = .ok (.istore_n 2, 1) := by decide +kernel
theorem d_Led_offset_4 : decode M_Led_offset.2.1 4 = .ok (.iload_n 2, 1) := by decide +kernel
theorem d_Led_offset_5 : decode M_Led_offset.2.1 5 = .ok (.aload_n 0, 1) := by decide +kernel
theorem d_Led_offset_6 : decode M_Led_offset.2.1 6 = .ok (.getfield 27, 3) := by decide +kernel
theorem d_Led_offset_9 : decode M_Led_offset.2.1 9 = .ok (.if_icmp .ge 46, 3) := by decide +kernel
theorem d_Led_offset_55 : decode M_Led_offset.2.1 55 = .ok (.iload_n 1, 1) := by decide +kernel
theorem d_Led_offset_56 : decode M_Led_offset.2.1 56 = .ok (.ireturn, 1) := by decide +kernel
theorem d_Led_offset_12 : decode M_Led_offset.2.1 12 = .ok (.iload_n 2, 1) := by decide +kernel
theorem d_Led_offset_13 : decode M_Led_offset.2.1 13 = .ok (.iconst 1, 1) := by decide +kernel
theorem d_Led_offset_14 : decode M_Led_offset.2.1 14 = .ok (.iadd, 1) := by decide +kernel
theorem d_Led_offset_15 : decode M_Led_offset.2.1 15 = .ok (.istore_n 3, 1) := by decide +kernel
theorem d_Led_offset_16 : decode M_Led_offset.2.1 16 = .ok (.iload_n 3, 1) := by decide +kernel
theorem d_Led_offset_17 : decode M_Led_offset.2.1 17 = .ok (.aload_n 0, 1) := by decide +kernel
theorem d_Led_offset_18 : decode M_Led_offset.2.1 18 = .ok (.getfield 27, 3) := by decide +kernel
theorem d_Led_offset_21 : decode M_Led_offset.2.1 21 = .ok (.if_icmp .ge 28, 3) := by decide +kernel
theorem d_Led_offset_49 : decode M_Led_offset.2.1 49 = .ok (.iinc 2 1, 3) := by decide +kernel
theorem d_Led_offset_52 : decode M_Led_offset.2.1 52 = .ok (.goto (-48), 3) := by decide +kernel
theorem d_Led_offset_24 : decode M_Led_offset.2.1 24 = .ok (.iload_n 1, 1) := by decide +kernel
theorem d_Led_offset_25 : decode M_Led_offset.2.1 25 = .ok (.aload_n 0, 1) := by decide +kernel
theorem d_Led_offset_26 : decode M_Led_offset.2.1 26 = .ok (.iload_n 2, 1) := by decide +kernel
theorem d_Led_offset_27 : decode M_Led_offset.2.1 27 = .ok (.iload_n 3, 1) := by decide +kernel
theorem d_Led_offset_28 : decode M_Led_offset.2.1 28 = .ok (.invokevirtual 39, 3) := by decide +kernel
theorem d_Led_offset_31 : decode M_Led_offset.2.1 31 = .ok (.aload_n 0, 1) := by decide +kernel
theorem d_Led_offset_32 : decode M_Led_offset.2.1 32 = .ok (.iload_n 3, 1) := by decide +kernel
theorem d_Led_offset_33 : decode M_Led_offset.2.1 33 = .ok (.iload_n 2, 1) := by decide +kernel
theorem d_Led_offset_34 : decode M_Led_offset.2.1 34 = .ok (.invokevirtual 39, 3) := by decide +kernel
theorem d_Led_offset_37 : decode M_Led_offset.2.1 37 = .ok (.isub, 1) := by decide +kernel
theorem d_Led_offset_38 : decode M_Led_offset.2.1 38 = .ok (.invokestatic 54, 3) := by decide +kernel
theorem d_Led_offset_41 : decode M_Led_offset.2.1 41 = .ok (.iadd, 1) := by decide +kernel
theorem d_Led_offset_42 : decode M_Led_offset.2.1 42 = .ok (.istore_n 1, 1) := by decide +kernel
theorem d_Led_offset_43 : decode M_Led_offset.2.1 43 = .ok (.iinc 3 1, 3) := by decide +kernel
theorem d_Led_offset_46 : decode M_Led_offset.2.1 46 = .ok (.goto (-30), 3) := by decide +kernel
def M_Led_allPurses : XM := (⟨"HandshakeBinds$Ledger", "allPurses", "()I"⟩, prog_5_method_11_code, 3, (some .int))
theorem d_Led_allPurses_0 : decode M_Led_allPurses.2.1 0 = .ok (.iconst 0, 1) := by decide +kernel
theorem d_Led_allPurses_1 : decode M_Led_allPurses.2.1 1 = .ok (.istore_n 1, 1) := by decide +kernel
theorem d_Led_allPurses_2 : decode M_Led_allPurses.2.1 2 = .ok (.iconst 0, 1) := by decide +kernel
theorem d_Led_allPurses_3 : decode M_Led_allPurses.2.1 3 = .ok (.istore_n 2, 1) := by decide +kernel
theorem d_Led_allPurses_4 : decode M_Led_allPurses.2.1 4 = .ok (.iload_n 2, 1) := by decide +kernel
theorem d_Led_allPurses_5 : decode M_Led_allPurses.2.1 5 = .ok (.aload_n 0, 1) := by decide +kernel
theorem d_Led_allPurses_6 : decode M_Led_allPurses.2.1 6 = .ok (.getfield 27, 3) := by decide +kernel
theorem d_Led_allPurses_9 : decode M_Led_allPurses.2.1 9 = .ok (.if_icmp .ge 20, 3) := by decide +kernel
theorem d_Led_allPurses_29 : decode M_Led_allPurses.2.1 29 = .ok (.iload_n 1, 1) := by decide +kernel
theorem d_Led_allPurses_30 : decode M_Led_allPurses.2.1 30 = .ok (.ireturn, 1) := by decide +kernel
theorem d_Led_allPurses_12 : decode M_Led_allPurses.2.1 12 = .ok (.iload_n 1, 1) := by decide +kernel
theorem d_Led_allPurses_13 : decode M_Led_allPurses.2.1 13 = .ok (.aload_n 0, 1) := by decide +kernel
theorem d_Led_allPurses_14 : decode M_Led_allPurses.2.1 14 = .ok (.getfield 9, 3) := by decide +kernel
theorem gf_Led_9 : GF "HandshakeBinds$Ledger" 9 2 0 := ⟨_, _, _, rfl, by decide, i_Led, inTB 100 (by decide +kernel) rfl⟩
theorem d_Led_allPurses_17 : decode M_Led_allPurses.2.1 17 = .ok (.iload_n 2, 1) := by decide +kernel
theorem d_Led_allPurses_18 : decode M_Led_allPurses.2.1 18 = .ok (.invokestatic 35, 3) := by decide +kernel
theorem d_Led_allPurses_21 : decode M_Led_allPurses.2.1 21 = .ok (.iadd, 1) := by decide +kernel
theorem d_Led_allPurses_22 : decode M_Led_allPurses.2.1 22 = .ok (.istore_n 1, 1) := by decide +kernel
theorem d_Led_allPurses_23 : decode M_Led_allPurses.2.1 23 = .ok (.iinc 2 1, 3) := by decide +kernel
theorem d_Led_allPurses_26 : decode M_Led_allPurses.2.1 26 = .ok (.goto (-22), 3) := by decide +kernel
def M_Led_enter : XM := (⟨"HandshakeBinds$Ledger", "enter", "()V"⟩, prog_5_method_3_code, 1, none)
theorem d_Led_enter_0 : decode M_Led_enter.2.1 0 = .ok (.aload_n 0, 1) := by decide +kernel
theorem d_Led_enter_1 : decode M_Led_enter.2.1 1 = .ok (.getfield 9, 3) := by decide +kernel
theorem d_Led_enter_4 : decode M_Led_enter.2.1 4 = .ok (.aload_n 0, 1) := by decide +kernel
theorem d_Led_enter_5 : decode M_Led_enter.2.1 5 = .ok (.getfield 27, 3) := by decide +kernel
theorem d_Led_enter_8 : decode M_Led_enter.2.1 8 = .ok (.bipush 100, 2) := by decide +kernel
theorem d_Led_enter_10 : decode M_Led_enter.2.1 10 = .ok (.invokestatic 31, 3) := by decide +kernel
theorem d_Led_enter_13 : decode M_Led_enter.2.1 13 = .ok (.aload_n 0, 1) := by decide +kernel
theorem d_Led_enter_14 : decode M_Led_enter.2.1 14 = .ok (.dup, 1) := by decide +kernel
theorem d_Led_enter_15 : decode M_Led_enter.2.1 15 = .ok (.getfield 27, 3) := by decide +kernel
theorem d_Led_enter_18 : decode M_Led_enter.2.1 18 = .ok (.iconst 1, 1) := by decide +kernel
theorem d_Led_enter_19 : decode M_Led_enter.2.1 19 = .ok (.iadd, 1) := by decide +kernel
theorem d_Led_enter_20 : decode M_Led_enter.2.1 20 = .ok (.putfield 27, 3) := by decide +kernel
theorem pf_Led_27 : PF "HandshakeBinds$Ledger" 27 2 3 (.int) false := ⟨_, _, _, t_Led, rfl, by decide, i_Led, t_Led_ok, n_Led, inTB 105 (by decide +kernel) rfl, rfl, t_Led_ok 3 (by decide), fun _ => rfl⟩
theorem d_Led_enter_23 : decode M_Led_enter.2.1 23 = .ok (.return_, 1) := by decide +kernel
def M_Led_cannotPay : XM := (⟨"HandshakeBinds$Ledger", "cannotPay", "(III)Z"⟩, prog_5_method_13_code, 4, (some .boolean))
theorem d_Led_cannotPay_0 : decode M_Led_cannotPay.2.1 0 = .ok (.aload_n 0, 1) := by decide +kernel
theorem d_Led_cannotPay_1 : decode M_Led_cannotPay.2.1 1 = .ok (.iload_n 1, 1) := by decide +kernel
theorem d_Led_cannotPay_2 : decode M_Led_cannotPay.2.1 2 = .ok (.invokevirtual 50, 3) := by decide +kernel
theorem d_Led_cannotPay_5 : decode M_Led_cannotPay.2.1 5 = .ok (.iload_n 2, 1) := by decide +kernel
theorem d_Led_cannotPay_6 : decode M_Led_cannotPay.2.1 6 = .ok (.aload_n 0, 1) := by decide +kernel
theorem d_Led_cannotPay_7 : decode M_Led_cannotPay.2.1 7 = .ok (.iload_n 1, 1) := by decide +kernel
theorem d_Led_cannotPay_8 : decode M_Led_cannotPay.2.1 8 = .ok (.iload_n 3, 1) := by decide +kernel
theorem d_Led_cannotPay_9 : decode M_Led_cannotPay.2.1 9 = .ok (.invokevirtual 47, 3) := by decide +kernel
theorem d_Led_cannotPay_12 : decode M_Led_cannotPay.2.1 12 = .ok (.iadd, 1) := by decide +kernel
theorem d_Led_cannotPay_13 : decode M_Led_cannotPay.2.1 13 = .ok (.if_icmp .le 7, 3) := by decide +kernel
theorem d_Led_cannotPay_20 : decode M_Led_cannotPay.2.1 20 = .ok (.iconst 0, 1) := by decide +kernel
theorem d_Led_cannotPay_21 : decode M_Led_cannotPay.2.1 21 = .ok (.ireturn, 1) := by decide +kernel
theorem d_Led_cannotPay_16 : decode M_Led_cannotPay.2.1 16 = .ok (.iconst 1, 1) := by decide +kernel
theorem d_Led_cannotPay_17 : decode M_Led_cannotPay.2.1 17 = .ok (.goto 4, 3) := by decide +kernel
def M_Led_failing : XM := (⟨"HandshakeBinds$Ledger", "failing", "(II)I"⟩, prog_5_method_12_code, 8, (some .int))
theorem d_Led_failing_0 : decode M_Led_failing.2.1 0 = .ok (.iload_n 1, 1) := by decide +kernel
theorem d_Led_failing_1 : decode M_Led_failing.2.1 1 = .ok (.istore_n 3, 1) := by decide +kernel
theorem d_Led_failing_2 : decode M_Led_failing.2.1 2 = .ok (.iconst 0, 1) := by decide +kernel
theorem d_Led_failing_3 : decode M_Led_failing.2.1 3 = .ok (.istore 4, 2) := by decide +kernel
theorem d_Led_failing_5 : decode M_Led_failing.2.1 5 = .ok (.iload 4, 2) := by decide +kernel
theorem d_Led_failing_7 : decode M_Led_failing.2.1 7 = .ok (.bipush 6, 2) := by decide +kernel
theorem d_Led_failing_9 : decode M_Led_failing.2.1 9 = .ok (.if_icmp .ge 83, 3) := by decide +kernel
theorem d_Led_failing_92 : decode M_Led_failing.2.1 92 = .ok (.iload_n 3, 1) := by decide +kernel
theorem d_Led_failing_93 : decode M_Led_failing.2.1 93 = .ok (.ireturn, 1) := by decide +kernel
theorem d_Led_failing_12 : decode M_Led_failing.2.1 12 = .ok (.iload_n 3, 1) := by decide +kernel
theorem d_Led_failing_13 : decode M_Led_failing.2.1 13 = .ok (.istore 5, 2) := by decide +kernel
theorem d_Led_failing_15 : decode M_Led_failing.2.1 15 = .ok (.iconst 0, 1) := by decide +kernel
theorem d_Led_failing_16 : decode M_Led_failing.2.1 16 = .ok (.istore 6, 2) := by decide +kernel
theorem d_Led_failing_18 : decode M_Led_failing.2.1 18 = .ok (.iload 6, 2) := by decide +kernel
theorem d_Led_failing_20 : decode M_Led_failing.2.1 20 = .ok (.aload_n 0, 1) := by decide +kernel
theorem d_Led_failing_21 : decode M_Led_failing.2.1 21 = .ok (.getfield 27, 3) := by decide +kernel
theorem d_Led_failing_24 : decode M_Led_failing.2.1 24 = .ok (.if_icmp .ge 53, 3) := by decide +kernel
theorem d_Led_failing_77 : decode M_Led_failing.2.1 77 = .ok (.iload_n 3, 1) := by decide +kernel
theorem d_Led_failing_78 : decode M_Led_failing.2.1 78 = .ok (.iload 5, 2) := by decide +kernel
theorem d_Led_failing_80 : decode M_Led_failing.2.1 80 = .ok (.if_icmp .ne 6, 3) := by decide +kernel
theorem d_Led_failing_86 : decode M_Led_failing.2.1 86 = .ok (.iinc 4 1, 3) := by decide +kernel
theorem d_Led_failing_89 : decode M_Led_failing.2.1 89 = .ok (.goto (-84), 3) := by decide +kernel
theorem d_Led_failing_83 : decode M_Led_failing.2.1 83 = .ok (.goto 9, 3) := by decide +kernel
theorem d_Led_failing_27 : decode M_Led_failing.2.1 27 = .ok (.iload_n 2, 1) := by decide +kernel
theorem d_Led_failing_28 : decode M_Led_failing.2.1 28 = .ok (.iload 6, 2) := by decide +kernel
theorem d_Led_failing_30 : decode M_Led_failing.2.1 30 = .ok (.invokestatic 43, 3) := by decide +kernel
theorem d_Led_failing_33 : decode M_Led_failing.2.1 33 = .ok (.ifCond .eq 8, 3) := by decide +kernel
theorem d_Led_failing_41 : decode M_Led_failing.2.1 41 = .ok (.aload_n 0, 1) := by decide +kernel
theorem d_Led_failing_42 : decode M_Led_failing.2.1 42 = .ok (.getfield 9, 3) := by decide +kernel
theorem d_Led_failing_45 : decode M_Led_failing.2.1 45 = .ok (.iload 6, 2) := by decide +kernel
theorem d_Led_failing_47 : decode M_Led_failing.2.1 47 = .ok (.invokestatic 35, 3) := by decide +kernel
theorem d_Led_failing_50 : decode M_Led_failing.2.1 50 = .ok (.istore 7, 2) := by decide +kernel
theorem d_Led_failing_52 : decode M_Led_failing.2.1 52 = .ok (.aload_n 0, 1) := by decide +kernel
theorem d_Led_failing_53 : decode M_Led_failing.2.1 53 = .ok (.iload 6, 2) := by decide +kernel
theorem d_Led_failing_55 : decode M_Led_failing.2.1 55 = .ok (.iload 7, 2) := by decide +kernel
theorem d_Led_failing_57 : decode M_Led_failing.2.1 57 = .ok (.iload_n 3, 1) := by decide +kernel
theorem d_Led_failing_58 : decode M_Led_failing.2.1 58 = .ok (.invokevirtual 60, 3) := by decide +kernel
theorem ln_Led_60 : Cond.methodLink "HandshakeBinds$Ledger" 60 M_Led_cannotPay.1 ∈ TB := inTB 394 (by decide +kernel) rfl
theorem lk_Led_cannotPay : LVt M_Led_cannotPay 3 := ⟨⟨inTB 64 (by decide +kernel) rfl, inTB 397 (by decide +kernel) rfl, ⟨by decide, by decide, by decide +kernel⟩, by decide⟩, inTB 396 (by decide +kernel) rfl, inTB 1 (by decide +kernel) rfl⟩
theorem d_Led_failing_61 : decode M_Led_failing.2.1 61 = .ok (.ifCond .eq 10, 3) := by decide +kernel
theorem d_Led_failing_71 : decode M_Led_failing.2.1 71 = .ok (.iinc 6 1, 3) := by decide +kernel
theorem d_Led_failing_74 : decode M_Led_failing.2.1 74 = .ok (.goto (-56), 3) := by decide +kernel
theorem d_Led_failing_64 : decode M_Led_failing.2.1 64 = .ok (.iload_n 3, 1) := by decide +kernel
theorem d_Led_failing_65 : decode M_Led_failing.2.1 65 = .ok (.iconst 1, 1) := by decide +kernel
theorem d_Led_failing_66 : decode M_Led_failing.2.1 66 = .ok (.iload 6, 2) := by decide +kernel
theorem d_Led_failing_68 : decode M_Led_failing.2.1 68 = .ok (.ishl, 1) := by decide +kernel
theorem d_Led_failing_69 : decode M_Led_failing.2.1 69 = .ok (.ior, 1) := by decide +kernel
theorem d_Led_failing_70 : decode M_Led_failing.2.1 70 = .ok (.istore_n 3, 1) := by decide +kernel
theorem d_Led_failing_36 : decode M_Led_failing.2.1 36 = .ok (.ldc 59, 2) := by decide +kernel
theorem d_Led_failing_38 : decode M_Led_failing.2.1 38 = .ok (.goto 12, 3) := by decide +kernel
theorem c_at (X : Xn) (b n i : Nat) (f : Nat → Int32) (hi : i < n) (hn : n < 2 ^ 31) : Does X 1 M_HB_at [.ref b, .int (nI i)] ([(b, .inl (X.2.2.1 0, n, .inl f))]) 0 0 (fun (vv : Option Value) (ww : va_W) => vv = some (.int (f i)) ∧ ww = [(b, .inl (X.2.2.1 0, n, .inl f))]) := by
  generalize hQ : (fun (vv : Option Value) (ww : va_W) => vv = some (.int (f i)) ∧ ww = [(b, .inl (X.2.2.1 0, n, .inl f))]) = Q
  refine Does.go rfl (Nat.le_of_ble_eq_true rfl) [some (.ref b), some (.int (nI i))] 0 rfl ?_
  refine r_iload_n rfl 1 rfl d_HB_at_0 ?_
  refine r_if_ltN_f i (by omega) 4 rfl 16 rfl d_HB_at_1 (by omega) ?_
  refine r_iload_n rfl 5 rfl d_HB_at_4 ?_
  refine r_aload_n rfl 6 rfl d_HB_at_5 ?_
  refine r_alenI 0 rfl 7 rfl d_HB_at_6 ?_
  refine r_icmp_geN_f i n (by omega) (by omega) 10 rfl 16 rfl d_HB_at_7 (by omega) ?_
  refine r_aload_n rfl 11 rfl d_HB_at_10 ?_
  refine r_iload_n rfl 12 rfl d_HB_at_11 ?_
  refine r_iald (f := f) 0 rfl i rfl (by omega) (by omega) 13 rfl d_HB_at_12 ?_
  refine r_goto 17 rfl d_HB_at_13 ?_
  exact r_iret rfl (Nat.zero_le _) (Nat.zero_le _) d_HB_at_17 (by rw [← hQ]; exact ⟨rfl, rfl⟩)
theorem c_atA (X : Xn) (i : Nat) (hi : i < 7) : Does X 1 M_HB_at [.ref (X.2.2.2 0), .int (nI i)] ([]) 0 0 (fun (vv : Option Value) (ww : va_W) => vv = some (.int (aboveV.getD i 0)) ∧ ww = []) := by
  generalize hQ : (fun (vv : Option Value) (ww : va_W) => vv = some (.int (aboveV.getD i 0)) ∧ ww = []) = Q
  refine Does.go rfl (Nat.le_of_ble_eq_true rfl) [some (.ref (X.2.2.2 0)), some (.int (nI i))] 0 rfl ?_
  refine r_iload_n rfl 1 rfl d_HB_at_0 ?_
  refine r_if_ltN_f i (by omega) 4 rfl 16 rfl d_HB_at_1 (by omega) ?_
  refine r_iload_n rfl 5 rfl d_HB_at_4 ?_
  refine r_aload_n rfl 6 rfl d_HB_at_5 ?_
  refine r_alenVA 7 rfl d_HB_at_6 ?_
  refine r_icmp_geN_f i 7 (by omega) (by omega) 10 rfl 16 rfl d_HB_at_7 (by omega) ?_
  refine r_aload_n rfl 11 rfl d_HB_at_10 ?_
  refine r_iload_n rfl 12 rfl d_HB_at_11 ?_
  refine r_ialdVA i rfl (by omega) 13 rfl d_HB_at_12 ?_
  refine r_goto 17 rfl d_HB_at_13 ?_
  exact r_iret rfl (Nat.zero_le _) (Nat.zero_le _) d_HB_at_17 (by rw [← hQ]; exact ⟨rfl, rfl⟩)
theorem c_atB (X : Xn) (i : Nat) (hi : i < 21) : Does X 1 M_HB_at [.ref (X.2.2.2 1), .int (nI i)] ([]) 0 0 (fun (vv : Option Value) (ww : va_W) => vv = some (.int (bodyV.getD i 0)) ∧ ww = []) := by
  generalize hQ : (fun (vv : Option Value) (ww : va_W) => vv = some (.int (bodyV.getD i 0)) ∧ ww = []) = Q
  refine Does.go rfl (Nat.le_of_ble_eq_true rfl) [some (.ref (X.2.2.2 1)), some (.int (nI i))] 0 rfl ?_
  refine r_iload_n rfl 1 rfl d_HB_at_0 ?_
  refine r_if_ltN_f i (by omega) 4 rfl 16 rfl d_HB_at_1 (by omega) ?_
  refine r_iload_n rfl 5 rfl d_HB_at_4 ?_
  refine r_aload_n rfl 6 rfl d_HB_at_5 ?_
  refine r_alenVB 7 rfl d_HB_at_6 ?_
  refine r_icmp_geN_f i 21 (by omega) (by omega) 10 rfl 16 rfl d_HB_at_7 (by omega) ?_
  refine r_aload_n rfl 11 rfl d_HB_at_10 ?_
  refine r_iload_n rfl 12 rfl d_HB_at_11 ?_
  refine r_ialdVB i rfl (by omega) 13 rfl d_HB_at_12 ?_
  refine r_goto 17 rfl d_HB_at_13 ?_
  exact r_iret rfl (Nat.zero_le _) (Nat.zero_le _) d_HB_at_17 (by rw [← hQ]; exact ⟨rfl, rfl⟩)
theorem c_put (X : Xn) (b n i : Nat) (x : Int32) (f : Nat → Int32) (hi : i < n) (hn : n < 2 ^ 31) : Does X 1 M_HB_put [.ref b, .int (nI i), .int x] ([(b, .inl (X.2.2.1 0, n, .inl f))]) 0 0 (fun (vv : Option Value) (ww : va_W) => vv = none ∧ ww = [(b, .inl (X.2.2.1 0, n, .inl (upd f i x)))]) := by
  generalize hQ : (fun (vv : Option Value) (ww : va_W) => vv = none ∧ ww = [(b, .inl (X.2.2.1 0, n, .inl (upd f i x)))]) = Q
  refine Does.go rfl (Nat.le_of_ble_eq_true rfl) [some (.ref b), some (.int (nI i)), some (.int x)] 0 rfl ?_
  refine r_iload_n rfl 1 rfl d_HB_put_0 ?_
  refine r_if_ltN_f i (by omega) 4 rfl 14 rfl d_HB_put_1 (by omega) ?_
  refine r_iload_n rfl 5 rfl d_HB_put_4 ?_
  refine r_aload_n rfl 6 rfl d_HB_put_5 ?_
  refine r_alenI 0 rfl 7 rfl d_HB_put_6 ?_
  refine r_icmp_geN_f i n (by omega) (by omega) 10 rfl 14 rfl d_HB_put_7 (by omega) ?_
  refine r_aload_n rfl 11 rfl d_HB_put_10 ?_
  refine r_iload_n rfl 12 rfl d_HB_put_11 ?_
  refine r_iload_n rfl 13 rfl d_HB_put_12 ?_
  refine r_iast (w2 := [(b, .inl (X.2.2.1 0, n, .inl (upd f i x)))]) 0 rfl i rfl (by omega) (by omega) rfl 14 rfl d_HB_put_13 ?_
  exact r_vret rfl (Nat.zero_le _) (Nat.zero_le _) d_HB_put_14 (by rw [← hQ]; exact ⟨rfl, rfl⟩)
theorem c_put0 (X : Xn) (b n i : Nat) (x : Int32) (f : Nat → Int32) (hi : n ≤ i) (hi2 : i < 2 ^ 31) (hn : n < 2 ^ 31) : Does X 1 M_HB_put [.ref b, .int (nI i), .int x] ([(b, .inl (X.2.2.1 0, n, .inl f))]) 0 0 (fun (vv : Option Value) (ww : va_W) => vv = none ∧ ww = [(b, .inl (X.2.2.1 0, n, .inl f))]) := by
  generalize hQ : (fun (vv : Option Value) (ww : va_W) => vv = none ∧ ww = [(b, .inl (X.2.2.1 0, n, .inl f))]) = Q
  refine Does.go rfl (Nat.le_of_ble_eq_true rfl) [some (.ref b), some (.int (nI i)), some (.int x)] 0 rfl ?_
  refine r_iload_n rfl 1 rfl d_HB_put_0 ?_
  refine r_if_ltN_f i (by omega) 4 rfl 14 rfl d_HB_put_1 (by omega) ?_
  refine r_iload_n rfl 5 rfl d_HB_put_4 ?_
  refine r_aload_n rfl 6 rfl d_HB_put_5 ?_
  refine r_alenI 0 rfl 7 rfl d_HB_put_6 ?_
  refine r_icmp_geN_t i n (by omega) (by omega) 14 rfl d_HB_put_7 (by omega) ?_
  exact r_vret rfl (Nat.zero_le _) (Nat.zero_le _) d_HB_put_14 (by rw [← hQ]; exact ⟨rfl, rfl⟩)
theorem c_hasBit (X : Xn) (S i : Nat) (hS : S < 64) (hi : i < 6) : Does X 1 M_HB_hasBit [.int (nI S), .int (nI i)] ([]) 0 0 (fun (vv : Option Value) (ww : va_W) => vv = some (.int (bI (hb S i))) ∧ ww = []) := by
  generalize hQ : (fun (vv : Option Value) (ww : va_W) => vv = some (.int (bI (hb S i))) ∧ ww = []) = Q
  refine Does.go rfl (Nat.le_of_ble_eq_true rfl) [some (.int (nI S)), some (.int (nI i))] 0 rfl ?_
  refine r_iload_n rfl 1 rfl d_HB_hasBit_0 ?_
  refine r_iload_n rfl 2 rfl d_HB_hasBit_1 ?_
  refine r_ishr 3 rfl d_HB_hasBit_2 ?_
  refine r_topi (nI (S >>> i)) (nI_shr (by omega) (by omega)) ?_
  refine r_iconst (nI 1) rfl 4 rfl d_HB_hasBit_3 ?_
  refine r_iand 5 rfl d_HB_hasBit_4 ?_
  refine r_topi (nI ((S >>> i) &&& 1)) (nx_and _ _) ?_
  refine r_if_eqN ((S >>> i) &&& 1) (b_lt31 _) 8 12 rfl rfl d_HB_hasBit_5 (fun h5 => ?_) (fun h5 => ?_)
  · refine r_iconst (nI 0) rfl 13 rfl d_HB_hasBit_12 ?_
    exact r_zret rfl (rfl) (Nat.zero_le _) (Nat.zero_le _) d_HB_hasBit_13 (by rw [← hQ]; exact ⟨vB_f (hb_f h5), rfl⟩)
  · refine r_iconst (nI 1) rfl 9 rfl d_HB_hasBit_8 ?_
    refine r_goto 13 rfl d_HB_hasBit_9 ?_
    exact r_zret rfl (rfl) (Nat.zero_le _) (Nat.zero_le _) d_HB_hasBit_13 (by rw [← hQ]; exact ⟨vB_t (hb_t h5), rfl⟩)
theorem c_Led_debt (X : Xn) (a : Nat → Nat) (ν : Nat → Nat → Nat) (σ : Nat → Nat → Int32) (τ : Nat → Nat → Int64)  (p : Nat) (q : Nat) (hp : p < 6) (hq : q < 6) : Does X 2 M_Led_debt [.ref (a 0), .int (nI p), .int (nI q)] (LW X a ν σ τ) 0 0 (fun (vv : Option Value) (ww : va_W) => vv = some (.int ((σ 2) (6 * p + q))) ∧ ww = LW X a ν σ τ) := by
  generalize hQ : (fun (vv : Option Value) (ww : va_W) => vv = some (.int ((σ 2) (6 * p + q))) ∧ ww = LW X a ν σ τ) = Q
  refine Does.go rfl (Nat.le_of_ble_eq_true rfl) [some (.ref (a 0)), some (.int (nI p)), some (.int (nI q))] 0 rfl ?_
  refine r_aload_n rfl 1 rfl d_Led_debt_0 ?_
  refine r_getf (v := .ref (a 2)) gf_Led_15 0 rfl rfl 4 rfl d_Led_debt_1 ?_
  refine r_iload_n rfl 5 rfl d_Led_debt_4 ?_
  refine r_bipush (nI 6) rfl 7 rfl d_Led_debt_5 ?_
  refine r_imul 8 rfl d_Led_debt_7 ?_
  refine r_topi (nI (p * 6)) (pk_mul _ _) ?_
  refine r_iload_n rfl 9 rfl d_Led_debt_8 ?_
  refine r_iadd 10 rfl d_Led_debt_9 ?_
  refine r_topi (nI ((p * 6) + q)) (nI_add _ _) ?_
  refine r_callSn1 (st2 := [.int (σ 2 ((p * 6) + q))]) (w2 := LW X a ν σ τ) lk_HB_at ln_Led_35 (c_at X _ 36 ((p * 6) + q) (σ 2) (by omega) (by decide)) (by first | decide | omega) rfl rfl (Nat.le_of_ble_eq_true rfl) (Nat.le_of_ble_eq_true rfl) (Nat.le_of_ble_eq_true rfl) [2] rfl rfl rfl rfl rfl 13 rfl d_Led_debt_10 ?_
  exact r_iret rfl (Nat.zero_le _) (Nat.zero_le _) d_Led_debt_13 (by rw [← hQ]; exact ⟨by rw [Nat.mul_comm p 6], rfl⟩)
theorem c_Led_setDebt (X : Xn) (a : Nat → Nat) (ν : Nat → Nat → Nat) (σ : Nat → Nat → Int32) (τ : Nat → Nat → Int64)  (p : Nat) (q : Nat) (x : Int32) (hp : p < 6) (hq : q < 6) : Does X 2 M_Led_setDebt [.ref (a 0), .int (nI p), .int (nI q), .int x] (LW X a ν σ τ) 0 0 (fun (vv : Option Value) (ww : va_W) => vv = none ∧ ww = LW X a ν (u2 σ 2 (upd (σ 2) (6 * p + q) x)) τ) := by
  generalize hQ : (fun (vv : Option Value) (ww : va_W) => vv = none ∧ ww = LW X a ν (u2 σ 2 (upd (σ 2) (6 * p + q) x)) τ) = Q
  refine Does.go rfl (Nat.le_of_ble_eq_true rfl) [some (.ref (a 0)), some (.int (nI p)), some (.int (nI q)), some (.int x)] 0 rfl ?_
  refine r_aload_n rfl 1 rfl d_Led_setDebt_0 ?_
  refine r_getf (v := .ref (a 2)) gf_Led_15 0 rfl rfl 4 rfl d_Led_setDebt_1 ?_
  refine r_iload_n rfl 5 rfl d_Led_setDebt_4 ?_
  refine r_bipush (nI 6) rfl 7 rfl d_Led_setDebt_5 ?_
  refine r_imul 8 rfl d_Led_setDebt_7 ?_
  refine r_topi (nI (p * 6)) (pk_mul _ _) ?_
  refine r_iload_n rfl 9 rfl d_Led_setDebt_8 ?_
  refine r_iadd 10 rfl d_Led_setDebt_9 ?_
  refine r_topi (nI ((p * 6) + q)) (nI_add _ _) ?_
  refine r_iload_n rfl 11 rfl d_Led_setDebt_10 ?_
  refine r_callSn1 (st2 := []) (w2 := LW X a ν (u2 σ 2 (upd (σ 2) ((p * 6) + q) x)) τ) lk_HB_put ln_Led_31 (c_put X _ 36 ((p * 6) + q) x (σ 2) (by omega) (by decide)) (by first | decide | omega) rfl rfl (Nat.le_of_ble_eq_true rfl) (Nat.le_of_ble_eq_true rfl) (Nat.le_of_ble_eq_true rfl) [2] rfl rfl rfl rfl rfl 14 rfl d_Led_setDebt_11 ?_
  exact r_vret rfl (Nat.zero_le _) (Nat.zero_le _) d_Led_setDebt_14 (by rw [← hQ]; exact ⟨rfl, by rw [Nat.mul_comm p 6]⟩)
theorem c_Led_owesAll (X : Xn) (a : Nat → Nat) (ν : Nat → Nat → Nat) (σ : Nat → Nat → Int32) (τ : Nat → Nat → Int64)  (p : Nat) (hn6 : ν 0 3 ≤ 6) (hp : p < 6) : Does X 3 M_Led_owesAll [.ref (a 0), .int (nI p)] (LW X a ν σ τ) 0 0 (fun (vv : Option Value) (ww : va_W) => vv = some (.int (osum (σ 2) p (ν 0 3))) ∧ ww = LW X a ν σ τ) := by
  generalize hQ : (fun (vv : Option Value) (ww : va_W) => vv = some (.int (osum (σ 2) p (ν 0 3))) ∧ ww = LW X a ν σ τ) = Q
  refine Does.go rfl (Nat.le_of_ble_eq_true rfl) [some (.ref (a 0)), some (.int (nI p)), none, none] 2 rfl ?_
  refine r_iconst (nI 0) rfl 1 rfl d_Led_owesAll_0 ?_
  refine r_istore_n (ls2 := [some (.ref (a 0)), some (.int (nI p)), some (.int (nI 0)), none]) 2 rfl d_Led_owesAll_1 (by decide) rfl rfl ?_
  refine r_iconst (nI 0) rfl 3 rfl d_Led_owesAll_2 ?_
  refine r_istore_n (ls2 := [some (.ref (a 0)), some (.int (nI p)), some (.int (nI 0)), some (.int (nI 0))]) 4 rfl d_Led_owesAll_3 (by decide) rfl rfl ?_
  have L4_1 : ∀ (f : Nat) (k : Nat), (k ≤ ν 0 3) → ν 0 3 - k < f → Runs X 3 M_Led_owesAll 0 0 Q 4 [some (.ref (a 0)), some (.int (nI p)), some (.int (osum (σ 2) p k)), some (.int (nI k))] [] 0 0 (LW X a ν σ τ) := by
    intro f
    induction f with
    | zero => intro k hk hmu; exact absurd hmu (Nat.not_lt_zero _)
    | succ f ih2 =>
      intro k hk hmu
      refine r_iload_n rfl 5 rfl d_Led_owesAll_4 ?_
      refine r_aload_n rfl 6 rfl d_Led_owesAll_5 ?_
      refine r_getf (v := .int (nI (ν 0 3))) gf_Led_27 0 rfl rfl 9 rfl d_Led_owesAll_6 ?_
      refine r_icmp_geN k (ν 0 3) (by omega) (by omega) 12 27 rfl rfl d_Led_owesAll_9 (fun h9 => ?_) (fun h9 => ?_)
      · refine r_iload_n rfl 28 rfl d_Led_owesAll_27 ?_
        exact r_iret rfl (Nat.zero_le _) (Nat.zero_le _) d_Led_owesAll_28 (by rw [← hQ]; exact ⟨by rw [show k = ν 0 3 by omega], rfl⟩)
      · refine r_iload_n rfl 13 rfl d_Led_owesAll_12 ?_
        refine r_aload_n rfl 14 rfl d_Led_owesAll_13 ?_
        refine r_iload_n rfl 15 rfl d_Led_owesAll_14 ?_
        refine r_iload_n rfl 16 rfl d_Led_owesAll_15 ?_
        refine r_callVA1 (st2 := [.int ((σ 2) (6 * p + k)), .int (osum (σ 2) p k)]) (w2 := LW X a ν σ τ) lk_Led_debt ln_Led_39 (c_Led_debt X a ν σ τ  p k (by omega) (by omega)) (by first | decide | omega) rfl rfl (Nat.le_of_ble_eq_true rfl) (Nat.le_of_ble_eq_true rfl) (Nat.le_of_ble_eq_true rfl) 0 rfl rfl rfl rfl 19 rfl d_Led_owesAll_16 ?_
        refine r_iadd 20 rfl d_Led_owesAll_19 ?_
        refine r_istore_n (ls2 := [some (.ref (a 0)), some (.int (nI p)), some (.int ((osum (σ 2) p k) + ((σ 2) (6 * p + k)))), some (.int (nI k))]) 21 rfl d_Led_owesAll_20 (by decide) rfl rfl ?_
        refine r_iinc (ls2 := [some (.ref (a 0)), some (.int (nI p)), some (.int ((osum (σ 2) p k) + ((σ 2) (6 * p + k)))), some (.int (nI (k + 1)))]) (nI (k + 1)) rfl (nI_1 _) 24 rfl d_Led_owesAll_21 (by decide) rfl rfl ?_
        refine r_goto 4 rfl d_Led_owesAll_24 ?_
        exact ih2 (k + 1) (by omega) (by omega)
  exact L4_1 _ 0 (by omega) (Nat.lt_succ_self _)
theorem c_Led_owedBy (X : Xn) (a : Nat → Nat) (ν : Nat → Nat → Nat) (σ : Nat → Nat → Int32) (τ : Nat → Nat → Int64)  (p : Nat) (S : Nat) (hn6 : ν 0 3 ≤ 6) (hp : p < 6) (hS : S < 64) : Does X 3 M_Led_owedBy [.ref (a 0), .int (nI p), .int (nI S)] (LW X a ν σ τ) 0 0 (fun (vv : Option Value) (ww : va_W) => vv = some (.int (dsum (σ 2) S p (ν 0 3))) ∧ ww = LW X a ν σ τ) := by
  generalize hQ : (fun (vv : Option Value) (ww : va_W) => vv = some (.int (dsum (σ 2) S p (ν 0 3))) ∧ ww = LW X a ν σ τ) = Q
  refine Does.go rfl (Nat.le_of_ble_eq_true rfl) [some (.ref (a 0)), some (.int (nI p)), some (.int (nI S)), none, none] 2 rfl ?_
  refine r_iconst (nI 0) rfl 1 rfl d_Led_owedBy_0 ?_
  refine r_istore_n (ls2 := [some (.ref (a 0)), some (.int (nI p)), some (.int (nI S)), some (.int (nI 0)), none]) 2 rfl d_Led_owedBy_1 (by decide) rfl rfl ?_
  refine r_iconst (nI 0) rfl 3 rfl d_Led_owedBy_2 ?_
  refine r_istore (ls2 := [some (.ref (a 0)), some (.int (nI p)), some (.int (nI S)), some (.int (nI 0)), some (.int (nI 0))]) 5 rfl d_Led_owedBy_3 (by decide) rfl rfl ?_
  have L5_1 : ∀ (f : Nat) (k : Nat), (k ≤ ν 0 3) → ν 0 3 - k < f → Runs X 3 M_Led_owedBy 0 0 Q 5 [some (.ref (a 0)), some (.int (nI p)), some (.int (nI S)), some (.int (dsum (σ 2) S p k)), some (.int (nI k))] [] 0 0 (LW X a ν σ τ) := by
    intro f
    induction f with
    | zero => intro k hk hmu; exact absurd hmu (Nat.not_lt_zero _)
    | succ f ih2 =>
      intro k hk hmu
      refine r_iload rfl 7 rfl d_Led_owedBy_5 ?_
      refine r_aload_n rfl 8 rfl d_Led_owedBy_7 ?_
      refine r_getf (v := .int (nI (ν 0 3))) gf_Led_27 0 rfl rfl 11 rfl d_Led_owedBy_8 ?_
      refine r_icmp_geN k (ν 0 3) (by omega) (by omega) 14 39 rfl rfl d_Led_owedBy_11 (fun h11 => ?_) (fun h11 => ?_)
      · refine r_iload_n rfl 40 rfl d_Led_owedBy_39 ?_
        exact r_iret rfl (Nat.zero_le _) (Nat.zero_le _) d_Led_owedBy_40 (by rw [← hQ]; exact ⟨by rw [show k = ν 0 3 by omega], rfl⟩)
      · refine r_iload_n rfl 15 rfl d_Led_owedBy_14 ?_
        refine r_iload rfl 17 rfl d_Led_owedBy_15 ?_
        refine r_callSn1 (st2 := [.int (bI (hb S k))]) (w2 := LW X a ν σ τ) lk_HB_hasBit ln_Led_43 (c_hasBit X S k (by omega) (by omega)) (by first | decide | omega) rfl rfl (Nat.le_of_ble_eq_true rfl) (Nat.le_of_ble_eq_true rfl) (Nat.le_of_ble_eq_true rfl) [] rfl rfl rfl rfl rfl 20 rfl d_Led_owedBy_17 ?_
        refine r_if_neB 23 33 rfl rfl d_Led_owedBy_20 (fun h20 => ?_) (fun h20 => ?_)
        · have eD : dsum (σ 2) S p (k + 1) = dsum (σ 2) S p k := ds_1 h20
          refine r_iinc (ls2 := [some (.ref (a 0)), some (.int (nI p)), some (.int (nI S)), some (.int (dsum (σ 2) S p k)), some (.int (nI (k + 1)))]) (nI (k + 1)) rfl (nI_1 _) 36 rfl d_Led_owedBy_33 (by decide) rfl rfl ?_
          refine r_goto 5 rfl d_Led_owedBy_36 ?_
          refine Runs.cast (ih2 (k + 1) (by omega) (by omega)) (by rw [eD]; try rfl) rfl (rfl)
        · have eD : dsum (σ 2) S p (k + 1) = dsum (σ 2) S p k + σ 2 (6 * k + p) := ds_0 h20
          refine r_iload_n rfl 24 rfl d_Led_owedBy_23 ?_
          refine r_aload_n rfl 25 rfl d_Led_owedBy_24 ?_
          refine r_iload rfl 27 rfl d_Led_owedBy_25 ?_
          refine r_iload_n rfl 28 rfl d_Led_owedBy_27 ?_
          refine r_callVA1 (st2 := [.int ((σ 2) (6 * k + p)), .int (dsum (σ 2) S p k)]) (w2 := LW X a ν σ τ) lk_Led_debt ln_Led_39 (c_Led_debt X a ν σ τ  k p (by omega) (by omega)) (by first | decide | omega) rfl rfl (Nat.le_of_ble_eq_true rfl) (Nat.le_of_ble_eq_true rfl) (Nat.le_of_ble_eq_true rfl) 0 rfl rfl rfl rfl 31 rfl d_Led_owedBy_28 ?_
          refine r_iadd 32 rfl d_Led_owedBy_31 ?_
          refine r_istore_n (ls2 := [some (.ref (a 0)), some (.int (nI p)), some (.int (nI S)), some (.int ((dsum (σ 2) S p k) + ((σ 2) (6 * k + p)))), some (.int (nI k))]) 33 rfl d_Led_owedBy_32 (by decide) rfl rfl ?_
          refine r_iinc (ls2 := [some (.ref (a 0)), some (.int (nI p)), some (.int (nI S)), some (.int ((dsum (σ 2) S p k) + ((σ 2) (6 * k + p)))), some (.int (nI (k + 1)))]) (nI (k + 1)) rfl (nI_1 _) 36 rfl d_Led_owedBy_33 (by decide) rfl rfl ?_
          refine r_goto 5 rfl d_Led_owedBy_36 ?_
          refine Runs.cast (ih2 (k + 1) (by omega) (by omega)) (by rw [eD]; try rfl) rfl (rfl)
  exact L5_1 _ 0 (by omega) (Nat.lt_succ_self _)
theorem c_Led_balance (X : Xn) (a : Nat → Nat) (ν : Nat → Nat → Nat) (σ : Nat → Nat → Int32) (τ : Nat → Nat → Int64)  (p : Nat) (hn6 : ν 0 3 ≤ 6) (hp : p < 6) : Does X 4 M_Led_balance [.ref (a 0), .int (nI p)] (LW X a ν σ τ) 0 0 (fun (vv : Option Value) (ww : va_W) => vv = some (.int (bal (ν 0 3) (σ 2) p)) ∧ ww = LW X a ν σ τ) := by
  generalize hQ : (fun (vv : Option Value) (ww : va_W) => vv = some (.int (bal (ν 0 3) (σ 2) p)) ∧ ww = LW X a ν σ τ) = Q
  refine Does.go rfl (Nat.le_of_ble_eq_true rfl) [some (.ref (a 0)), some (.int (nI p))] 0 rfl ?_
  refine r_aload_n rfl 1 rfl d_Led_balance_0 ?_
  refine r_iload_n rfl 2 rfl d_Led_balance_1 ?_
  refine r_iconst (nI 0) rfl 3 rfl d_Led_balance_2 ?_
  refine r_callVA1 (st2 := [.int (dsum (σ 2) 0 p (ν 0 3))]) (w2 := LW X a ν σ τ) lk_Led_owedBy ln_Led_47 (c_Led_owedBy X a ν σ τ  p 0 (hn6) (by omega) (by omega)) (by first | decide | omega) rfl rfl (Nat.le_of_ble_eq_true rfl) (Nat.le_of_ble_eq_true rfl) (Nat.le_of_ble_eq_true rfl) 0 rfl rfl rfl rfl 6 rfl d_Led_balance_3 ?_
  refine r_aload_n rfl 7 rfl d_Led_balance_6 ?_
  refine r_iload_n rfl 8 rfl d_Led_balance_7 ?_
  refine r_callVA1 (st2 := [.int (osum (σ 2) p (ν 0 3)), .int (dsum (σ 2) 0 p (ν 0 3))]) (w2 := LW X a ν σ τ) lk_Led_owesAll ln_Led_50 (c_Led_owesAll X a ν σ τ  p (hn6) (by omega)) (by first | decide | omega) rfl rfl (Nat.le_of_ble_eq_true rfl) (Nat.le_of_ble_eq_true rfl) (Nat.le_of_ble_eq_true rfl) 0 rfl rfl rfl rfl 11 rfl d_Led_balance_8 ?_
  refine r_isub 12 rfl d_Led_balance_11 ?_
  exact r_iret rfl (Nat.zero_le _) (Nat.zero_le _) d_Led_balance_12 (by rw [← hQ]; exact ⟨rfl, rfl⟩)
theorem c_Led_total (X : Xn) (a : Nat → Nat) (ν : Nat → Nat → Nat) (σ : Nat → Nat → Int32) (τ : Nat → Nat → Int64)   (hn6 : ν 0 3 ≤ 6) : Does X 4 M_Led_total [.ref (a 0)] (LW X a ν σ τ) 0 0 (fun (vv : Option Value) (ww : va_W) => vv = some (.int (osumAll (ν 0 3) (σ 2) (ν 0 3))) ∧ ww = LW X a ν σ τ) := by
  generalize hQ : (fun (vv : Option Value) (ww : va_W) => vv = some (.int (osumAll (ν 0 3) (σ 2) (ν 0 3))) ∧ ww = LW X a ν σ τ) = Q
  refine Does.go rfl (Nat.le_of_ble_eq_true rfl) [some (.ref (a 0)), none, none] 2 rfl ?_
  refine r_iconst (nI 0) rfl 1 rfl d_Led_total_0 ?_
  refine r_istore_n (ls2 := [some (.ref (a 0)), some (.int (nI 0)), none]) 2 rfl d_Led_total_1 (by decide) rfl rfl ?_
  refine r_iconst (nI 0) rfl 3 rfl d_Led_total_2 ?_
  refine r_istore_n (ls2 := [some (.ref (a 0)), some (.int (nI 0)), some (.int (nI 0))]) 4 rfl d_Led_total_3 (by decide) rfl rfl ?_
  have L4_1 : ∀ (f : Nat) (k : Nat), (k ≤ ν 0 3) → ν 0 3 - k < f → Runs X 4 M_Led_total 0 0 Q 4 [some (.ref (a 0)), some (.int (osumAll (ν 0 3) (σ 2) k)), some (.int (nI k))] [] 0 0 (LW X a ν σ τ) := by
    intro f
    induction f with
    | zero => intro k hk hmu; exact absurd hmu (Nat.not_lt_zero _)
    | succ f ih2 =>
      intro k hk hmu
      refine r_iload_n rfl 5 rfl d_Led_total_4 ?_
      refine r_aload_n rfl 6 rfl d_Led_total_5 ?_
      refine r_getf (v := .int (nI (ν 0 3))) gf_Led_27 0 rfl rfl 9 rfl d_Led_total_6 ?_
      refine r_icmp_geN k (ν 0 3) (by omega) (by omega) 12 26 rfl rfl d_Led_total_9 (fun h9 => ?_) (fun h9 => ?_)
      · refine r_iload_n rfl 27 rfl d_Led_total_26 ?_
        exact r_iret rfl (Nat.zero_le _) (Nat.zero_le _) d_Led_total_27 (by rw [← hQ]; exact ⟨by rw [show k = ν 0 3 by omega], rfl⟩)
      · refine r_iload_n rfl 13 rfl d_Led_total_12 ?_
        refine r_aload_n rfl 14 rfl d_Led_total_13 ?_
        refine r_iload_n rfl 15 rfl d_Led_total_14 ?_
        refine r_callVA1 (st2 := [.int (osum (σ 2) k (ν 0 3)), .int (osumAll (ν 0 3) (σ 2) k)]) (w2 := LW X a ν σ τ) lk_Led_owesAll ln_Led_50 (c_Led_owesAll X a ν σ τ  k (hn6) (by omega)) (by first | decide | omega) rfl rfl (Nat.le_of_ble_eq_true rfl) (Nat.le_of_ble_eq_true rfl) (Nat.le_of_ble_eq_true rfl) 0 rfl rfl rfl rfl 18 rfl d_Led_total_15 ?_
        refine r_iadd 19 rfl d_Led_total_18 ?_
        refine r_istore_n (ls2 := [some (.ref (a 0)), some (.int ((osumAll (ν 0 3) (σ 2) k) + (osum (σ 2) k (ν 0 3)))), some (.int (nI k))]) 20 rfl d_Led_total_19 (by decide) rfl rfl ?_
        refine r_iinc (ls2 := [some (.ref (a 0)), some (.int ((osumAll (ν 0 3) (σ 2) k) + (osum (σ 2) k (ν 0 3)))), some (.int (nI (k + 1)))]) (nI (k + 1)) rfl (nI_1 _) 23 rfl d_Led_total_20 (by decide) rfl rfl ?_
        refine r_goto 4 rfl d_Led_total_23 ?_
        exact ih2 (k + 1) (by omega) (by omega)
  exact L4_1 _ 0 (by omega) (Nat.lt_succ_self _)
theorem c_Led_offset (X : Xn) (a : Nat → Nat) (ν : Nat → Nat → Nat) (σ : Nat → Nat → Int32) (τ : Nat → Nat → Int64)   (hn6 : ν 0 3 ≤ 6) : Does X 3 M_Led_offset [.ref (a 0)] (LW X a ν σ τ) 0 0 (fun (vv : Option Value) (ww : va_W) => vv = some (.int (offO (ν 0 3) (σ 2) (ν 0 3))) ∧ ww = LW X a ν σ τ) := by
  generalize hQ : (fun (vv : Option Value) (ww : va_W) => vv = some (.int (offO (ν 0 3) (σ 2) (ν 0 3))) ∧ ww = LW X a ν σ τ) = Q
  refine Does.go rfl (Nat.le_of_ble_eq_true rfl) [some (.ref (a 0)), none, none, none] 3 rfl ?_
  refine r_iconst (nI 0) rfl 1 rfl d_Led_offset_0 ?_
  refine r_istore_n (ls2 := [some (.ref (a 0)), some (.int (nI 0)), none, none]) 2 rfl d_Led_offset_1 (by decide) rfl rfl ?_
  refine r_iconst (nI 0) rfl 3 rfl d_Led_offset_2 ?_
  refine r_istore_n (ls2 := [some (.ref (a 0)), some (.int (nI 0)), some (.int (nI 0)), none]) 4 rfl d_Led_offset_3 (by decide) rfl rfl ?_
  have L4_1 : ∀ (f : Nat) (p : Nat), (p ≤ ν 0 3) → ν 0 3 - p < f → Runs X 3 M_Led_offset 0 0 Q 4 [some (.ref (a 0)), some (.int (offO (ν 0 3) (σ 2) p)), some (.int (nI p)), none] [] 0 0 (LW X a ν σ τ) := by
    intro f
    induction f with
    | zero => intro p hp hmu; exact absurd hmu (Nat.not_lt_zero _)
    | succ f ih2 =>
      intro p hp hmu
      refine r_iload_n rfl 5 rfl d_Led_offset_4 ?_
      refine r_aload_n rfl 6 rfl d_Led_offset_5 ?_
      refine r_getf (v := .int (nI (ν 0 3))) gf_Led_27 0 rfl rfl 9 rfl d_Led_offset_6 ?_
      refine r_icmp_geN p (ν 0 3) (by omega) (by omega) 12 55 rfl rfl d_Led_offset_9 (fun h9 => ?_) (fun h9 => ?_)
      · refine r_iload_n rfl 56 rfl d_Led_offset_55 ?_
        exact r_iret rfl (Nat.zero_le _) (Nat.zero_le _) d_Led_offset_56 (by rw [← hQ]; exact ⟨by rw [show p = ν 0 3 by omega], rfl⟩)
      · refine r_iload_n rfl 13 rfl d_Led_offset_12 ?_
        refine r_iconst (nI 1) rfl 14 rfl d_Led_offset_13 ?_
        refine r_iadd 15 rfl d_Led_offset_14 ?_
        refine r_topi (nI (p + 1)) (nI_add _ _) ?_
        refine r_istore_n (ls2 := [some (.ref (a 0)), some (.int (offO (ν 0 3) (σ 2) p)), some (.int (nI p)), some (.int (nI (p + 1)))]) 16 rfl d_Led_offset_15 (by decide) rfl rfl ?_
        have L16_3 : ∀ (f : Nat) (j : Nat), (p + 1 + j ≤ ν 0 3) → ν 0 3 - (p + 1 + j) < f → Runs X 3 M_Led_offset 0 0 Q 16 [some (.ref (a 0)), some (.int (offI (σ 2) p (offO (ν 0 3) (σ 2) p) j)), some (.int (nI p)), some (.int (nI (p + 1 + j)))] [] 0 0 (LW X a ν σ τ) := by
          intro f
          induction f with
          | zero => intro j hj hmu; exact absurd hmu (Nat.not_lt_zero _)
          | succ f ih4 =>
            intro j hj hmu
            refine r_iload_n rfl 17 rfl d_Led_offset_16 ?_
            refine r_aload_n rfl 18 rfl d_Led_offset_17 ?_
            refine r_getf (v := .int (nI (ν 0 3))) gf_Led_27 0 rfl rfl 21 rfl d_Led_offset_18 ?_
            refine r_icmp_geN (p + 1 + j) (ν 0 3) (by omega) (by omega) 24 49 rfl rfl d_Led_offset_21 (fun h21 => ?_) (fun h21 => ?_)
            · refine r_iinc (ls2 := [some (.ref (a 0)), some (.int (offI (σ 2) p (offO (ν 0 3) (σ 2) p) j)), some (.int (nI (p + 1))), some (.int (nI (p + 1 + j)))]) (nI (p + 1)) rfl (nI_1 _) 52 rfl d_Led_offset_49 (by decide) rfl rfl ?_
              refine r_goto 4 rfl d_Led_offset_52 ?_
              refine r_forget (ls2 := [some (.ref (a 0)), some (.int (offI (σ 2) p (offO (ν 0 3) (σ 2) p) j)), some (.int (nI (p + 1))), none]) 3 rfl ?_
              refine Runs.cast (ih2 (p + 1) (by omega) (by omega)) (by rw [show j = ν 0 3 - (p + 1) by omega]; try rfl) rfl (rfl)
            · refine r_iload_n rfl 25 rfl d_Led_offset_24 ?_
              refine r_aload_n rfl 26 rfl d_Led_offset_25 ?_
              refine r_iload_n rfl 27 rfl d_Led_offset_26 ?_
              refine r_iload_n rfl 28 rfl d_Led_offset_27 ?_
              refine r_callVA1 (st2 := [.int ((σ 2) (6 * p + (p + 1 + j))), .int (offI (σ 2) p (offO (ν 0 3) (σ 2) p) j)]) (w2 := LW X a ν σ τ) lk_Led_debt ln_Led_39 (c_Led_debt X a ν σ τ  p (p + 1 + j) (by omega) (by omega)) (by first | decide | omega) rfl rfl (Nat.le_of_ble_eq_true rfl) (Nat.le_of_ble_eq_true rfl) (Nat.le_of_ble_eq_true rfl) 0 rfl rfl rfl rfl 31 rfl d_Led_offset_28 ?_
              refine r_aload_n rfl 32 rfl d_Led_offset_31 ?_
              refine r_iload_n rfl 33 rfl d_Led_offset_32 ?_
              refine r_iload_n rfl 34 rfl d_Led_offset_33 ?_
              refine r_callVA1 (st2 := [.int ((σ 2) (6 * (p + 1 + j) + p)), .int ((σ 2) (6 * p + (p + 1 + j))), .int (offI (σ 2) p (offO (ν 0 3) (σ 2) p) j)]) (w2 := LW X a ν σ τ) lk_Led_debt ln_Led_39 (c_Led_debt X a ν σ τ  (p + 1 + j) p (by omega) (by omega)) (by first | decide | omega) rfl rfl (Nat.le_of_ble_eq_true rfl) (Nat.le_of_ble_eq_true rfl) (Nat.le_of_ble_eq_true rfl) 0 rfl rfl rfl rfl 37 rfl d_Led_offset_34 ?_
              refine r_isub 38 rfl d_Led_offset_37 ?_
              refine r_mabs (inTB 642 (by decide +kernel) rfl) (by first | decide | omega) (Nat.le_of_ble_eq_true rfl) (Nat.le_of_ble_eq_true rfl) (Nat.le_of_ble_eq_true rfl) 41 rfl d_Led_offset_38 ?_
              refine r_iadd 42 rfl d_Led_offset_41 ?_
              refine r_istore_n (ls2 := [some (.ref (a 0)), some (.int ((offI (σ 2) p (offO (ν 0 3) (σ 2) p) j) + (if 0 ≤ (((σ 2) (6 * p + (p + 1 + j))) - ((σ 2) (6 * (p + 1 + j) + p))) then (((σ 2) (6 * p + (p + 1 + j))) - ((σ 2) (6 * (p + 1 + j) + p))) else 0 - (((σ 2) (6 * p + (p + 1 + j))) - ((σ 2) (6 * (p + 1 + j) + p)))))), some (.int (nI p)), some (.int (nI (p + 1 + j)))]) 43 rfl d_Led_offset_42 (by decide) rfl rfl ?_
              refine r_iinc (ls2 := [some (.ref (a 0)), some (.int ((offI (σ 2) p (offO (ν 0 3) (σ 2) p) j) + (if 0 ≤ (((σ 2) (6 * p + (p + 1 + j))) - ((σ 2) (6 * (p + 1 + j) + p))) then (((σ 2) (6 * p + (p + 1 + j))) - ((σ 2) (6 * (p + 1 + j) + p))) else 0 - (((σ 2) (6 * p + (p + 1 + j))) - ((σ 2) (6 * (p + 1 + j) + p)))))), some (.int (nI p)), some (.int (nI ((p + 1 + j) + 1)))]) (nI ((p + 1 + j) + 1)) rfl (nI_1 _) 46 rfl d_Led_offset_43 (by decide) rfl rfl ?_
              refine r_goto 16 rfl d_Led_offset_46 ?_
              exact ih4 (j + 1) (by omega) (by omega)
        exact L16_3 _ 0 (by omega) (Nat.lt_succ_self _)
  exact L4_1 _ 0 (by omega) (Nat.lt_succ_self _)
theorem c_Led_allPurses (X : Xn) (a : Nat → Nat) (ν : Nat → Nat → Nat) (σ : Nat → Nat → Int32) (τ : Nat → Nat → Int64)   (hn6 : ν 0 3 ≤ 6) : Does X 3 M_Led_allPurses [.ref (a 0)] (LW X a ν σ τ) 0 0 (fun (vv : Option Value) (ww : va_W) => vv = some (.int (isum (σ 1) (ν 0 3))) ∧ ww = LW X a ν σ τ) := by
  generalize hQ : (fun (vv : Option Value) (ww : va_W) => vv = some (.int (isum (σ 1) (ν 0 3))) ∧ ww = LW X a ν σ τ) = Q
  refine Does.go rfl (Nat.le_of_ble_eq_true rfl) [some (.ref (a 0)), none, none] 2 rfl ?_
  refine r_iconst (nI 0) rfl 1 rfl d_Led_allPurses_0 ?_
  refine r_istore_n (ls2 := [some (.ref (a 0)), some (.int (nI 0)), none]) 2 rfl d_Led_allPurses_1 (by decide) rfl rfl ?_
  refine r_iconst (nI 0) rfl 3 rfl d_Led_allPurses_2 ?_
  refine r_istore_n (ls2 := [some (.ref (a 0)), some (.int (nI 0)), some (.int (nI 0))]) 4 rfl d_Led_allPurses_3 (by decide) rfl rfl ?_
  have L4_1 : ∀ (f : Nat) (k : Nat), (k ≤ ν 0 3) → ν 0 3 - k < f → Runs X 3 M_Led_allPurses 0 0 Q 4 [some (.ref (a 0)), some (.int (isum (σ 1) k)), some (.int (nI k))] [] 0 0 (LW X a ν σ τ) := by
    intro f
    induction f with
    | zero => intro k hk hmu; exact absurd hmu (Nat.not_lt_zero _)
    | succ f ih2 =>
      intro k hk hmu
      refine r_iload_n rfl 5 rfl d_Led_allPurses_4 ?_
      refine r_aload_n rfl 6 rfl d_Led_allPurses_5 ?_
      refine r_getf (v := .int (nI (ν 0 3))) gf_Led_27 0 rfl rfl 9 rfl d_Led_allPurses_6 ?_
      refine r_icmp_geN k (ν 0 3) (by omega) (by omega) 12 29 rfl rfl d_Led_allPurses_9 (fun h9 => ?_) (fun h9 => ?_)
      · refine r_iload_n rfl 30 rfl d_Led_allPurses_29 ?_
        exact r_iret rfl (Nat.zero_le _) (Nat.zero_le _) d_Led_allPurses_30 (by rw [← hQ]; exact ⟨by rw [show k = ν 0 3 by omega], rfl⟩)
      · refine r_iload_n rfl 13 rfl d_Led_allPurses_12 ?_
        refine r_aload_n rfl 14 rfl d_Led_allPurses_13 ?_
        refine r_getf (v := .ref (a 1)) gf_Led_9 0 rfl rfl 17 rfl d_Led_allPurses_14 ?_
        refine r_iload_n rfl 18 rfl d_Led_allPurses_17 ?_
        refine r_callSn1 (st2 := [.int (σ 1 k), .int (isum (σ 1) k)]) (w2 := LW X a ν σ τ) lk_HB_at ln_Led_35 (c_at X _ 6 k (σ 1) (by omega) (by decide)) (by first | decide | omega) rfl rfl (Nat.le_of_ble_eq_true rfl) (Nat.le_of_ble_eq_true rfl) (Nat.le_of_ble_eq_true rfl) [1] rfl rfl rfl rfl rfl 21 rfl d_Led_allPurses_18 ?_
        refine r_iadd 22 rfl d_Led_allPurses_21 ?_
        refine r_istore_n (ls2 := [some (.ref (a 0)), some (.int ((isum (σ 1) k) + (σ 1 k))), some (.int (nI k))]) 23 rfl d_Led_allPurses_22 (by decide) rfl rfl ?_
        refine r_iinc (ls2 := [some (.ref (a 0)), some (.int ((isum (σ 1) k) + (σ 1 k))), some (.int (nI (k + 1)))]) (nI (k + 1)) rfl (nI_1 _) 26 rfl d_Led_allPurses_23 (by decide) rfl rfl ?_
        refine r_goto 4 rfl d_Led_allPurses_26 ?_
        exact ih2 (k + 1) (by omega) (by omega)
  exact L4_1 _ 0 (by omega) (Nat.lt_succ_self _)
theorem c_Led_enter (X : Xn) (a : Nat → Nat) (ν : Nat → Nat → Nat) (σ : Nat → Nat → Int32) (τ : Nat → Nat → Int64)   (hn5 : ν 0 3 < 6) : Does X 2 M_Led_enter [.ref (a 0)] (LW X a ν σ τ) 0 0 (fun (vv : Option Value) (ww : va_W) => vv = none ∧ ww = LW X a (pu ν 0 (u1 (ν 0) 3 ((ν 0 3) + 1))) (u2 σ 1 (upd (σ 1) (ν 0 3) (nI 100))) τ) := by
  generalize hQ : (fun (vv : Option Value) (ww : va_W) => vv = none ∧ ww = LW X a (pu ν 0 (u1 (ν 0) 3 ((ν 0 3) + 1))) (u2 σ 1 (upd (σ 1) (ν 0 3) (nI 100))) τ) = Q
  refine Does.go rfl (Nat.le_of_ble_eq_true rfl) [some (.ref (a 0))] 0 rfl ?_
  refine r_aload_n rfl 1 rfl d_Led_enter_0 ?_
  refine r_getf (v := .ref (a 1)) gf_Led_9 0 rfl rfl 4 rfl d_Led_enter_1 ?_
  refine r_aload_n rfl 5 rfl d_Led_enter_4 ?_
  refine r_getf (v := .int (nI (ν 0 3))) gf_Led_27 0 rfl rfl 8 rfl d_Led_enter_5 ?_
  refine r_bipush (nI 100) rfl 10 rfl d_Led_enter_8 ?_
  refine r_callSn1 (st2 := []) (w2 := LW X a ν (u2 σ 1 (upd (σ 1) (ν 0 3) (nI 100))) τ) lk_HB_put ln_Led_31 (c_put X _ 6 (ν 0 3) (nI 100) (σ 1) (by omega) (by decide)) (by first | decide | omega) rfl rfl (Nat.le_of_ble_eq_true rfl) (Nat.le_of_ble_eq_true rfl) (Nat.le_of_ble_eq_true rfl) [1] rfl rfl rfl rfl rfl 13 rfl d_Led_enter_10 ?_
  refine r_aload_n rfl 14 rfl d_Led_enter_13 ?_
  refine r_dup rfl 15 rfl d_Led_enter_14 ?_
  refine r_getf (v := .int (nI (ν 0 3))) gf_Led_27 0 rfl rfl 18 rfl d_Led_enter_15 ?_
  refine r_iconst (nI 1) rfl 19 rfl d_Led_enter_18 ?_
  refine r_iadd 20 rfl d_Led_enter_19 ?_
  refine r_topi (nI ((ν 0 3) + 1)) (nI_add _ _) ?_
  refine r_putf (w2 := LW X a (pu ν 0 (u1 (ν 0) 3 ((ν 0 3) + 1))) (u2 σ 1 (upd (σ 1) (ν 0 3) (nI 100))) τ) pf_Led_27 0 rfl (rfl) rfl (Nat.le_of_ble_eq_true rfl) rfl 23 rfl d_Led_enter_20 ?_
  exact r_vret rfl (Nat.zero_le _) (Nat.zero_le _) d_Led_enter_23 (by rw [← hQ]; exact ⟨rfl, rfl⟩)
theorem c_Led_cannotPay (X : Xn) (a : Nat → Nat) (ν : Nat → Nat → Nat) (σ : Nat → Nat → Int32) (τ : Nat → Nat → Int64)  (p : Nat) (x : Int32) (S : Nat) (hn6 : ν 0 3 ≤ 6) (hp : p < 6) (hS : S < 64) : Does X 4 M_Led_cannotPay [.ref (a 0), .int (nI p), .int x, .int (nI S)] (LW X a ν σ τ) 0 0 (fun (vv : Option Value) (ww : va_W) => vv = some (.int (bI (cantX (ν 0 3) x (σ 2) S p))) ∧ ww = LW X a ν σ τ) := by
  generalize hQ : (fun (vv : Option Value) (ww : va_W) => vv = some (.int (bI (cantX (ν 0 3) x (σ 2) S p))) ∧ ww = LW X a ν σ τ) = Q
  refine Does.go rfl (Nat.le_of_ble_eq_true rfl) [some (.ref (a 0)), some (.int (nI p)), some (.int x), some (.int (nI S))] 0 rfl ?_
  refine r_aload_n rfl 1 rfl d_Led_cannotPay_0 ?_
  refine r_iload_n rfl 2 rfl d_Led_cannotPay_1 ?_
  refine r_callVA1 (st2 := [.int (osum (σ 2) p (ν 0 3))]) (w2 := LW X a ν σ τ) lk_Led_owesAll ln_Led_50 (c_Led_owesAll X a ν σ τ  p (hn6) (by omega)) (by first | decide | omega) rfl rfl (Nat.le_of_ble_eq_true rfl) (Nat.le_of_ble_eq_true rfl) (Nat.le_of_ble_eq_true rfl) 0 rfl rfl rfl rfl 5 rfl d_Led_cannotPay_2 ?_
  refine r_iload_n rfl 6 rfl d_Led_cannotPay_5 ?_
  refine r_aload_n rfl 7 rfl d_Led_cannotPay_6 ?_
  refine r_iload_n rfl 8 rfl d_Led_cannotPay_7 ?_
  refine r_iload_n rfl 9 rfl d_Led_cannotPay_8 ?_
  refine r_callVA1 (st2 := [.int (dsum (σ 2) S p (ν 0 3)), .int x, .int (osum (σ 2) p (ν 0 3))]) (w2 := LW X a ν σ τ) lk_Led_owedBy ln_Led_47 (c_Led_owedBy X a ν σ τ  p S (hn6) (by omega) (by omega)) (by first | decide | omega) rfl rfl (Nat.le_of_ble_eq_true rfl) (Nat.le_of_ble_eq_true rfl) (Nat.le_of_ble_eq_true rfl) 0 rfl rfl rfl rfl 12 rfl d_Led_cannotPay_9 ?_
  refine r_iadd 13 rfl d_Led_cannotPay_12 ?_
  refine r_icmp_le 16 20 rfl rfl d_Led_cannotPay_13 (fun h13 => ?_) (fun h13 => ?_)
  · refine r_iconst (nI 0) rfl 21 rfl d_Led_cannotPay_20 ?_
    exact r_zret rfl (rfl) (Nat.zero_le _) (Nat.zero_le _) d_Led_cannotPay_21 (by rw [← hQ]; exact ⟨vB_f (decide_eq_false (Int32.not_lt.mpr h13)), rfl⟩)
  · refine r_iconst (nI 1) rfl 17 rfl d_Led_cannotPay_16 ?_
    refine r_goto 21 rfl d_Led_cannotPay_17 ?_
    exact r_zret rfl (rfl) (Nat.zero_le _) (Nat.zero_le _) d_Led_cannotPay_21 (by rw [← hQ]; exact ⟨vB_t (decide_eq_true (Int32.not_le.mp h13)), rfl⟩)
theorem c_Led_failing (X : Xn) (a : Nat → Nat) (ν : Nat → Nat → Nat) (σ : Nat → Nat → Int32) (τ : Nat → Nat → Int64)  (T : Nat) (R : Nat) (hn6 : ν 0 3 ≤ 6) (hT : T < 64) (hR : R < 64) : Does X 5 M_Led_failing [.ref (a 0), .int (nI T), .int (nI R)] (LW X a ν σ τ) 0 0 (fun (vv : Option Value) (ww : va_W) => vv = some (.int (nI (fails (ν 0 3) (rp (σ 1) R) (σ 2) T))) ∧ ww = LW X a ν σ τ) := by
  generalize hQ : (fun (vv : Option Value) (ww : va_W) => vv = some (.int (nI (fails (ν 0 3) (rp (σ 1) R) (σ 2) T))) ∧ ww = LW X a ν σ τ) = Q
  refine Does.go rfl (Nat.le_of_ble_eq_true rfl) [some (.ref (a 0)), some (.int (nI T)), some (.int (nI R)), none, none, none, none, none] 5 rfl ?_
  refine r_iload_n rfl 1 rfl d_Led_failing_0 ?_
  refine r_istore_n (ls2 := [some (.ref (a 0)), some (.int (nI T)), some (.int (nI R)), some (.int (nI T)), none, none, none, none]) 2 rfl d_Led_failing_1 (by decide) rfl rfl ?_
  refine r_iconst (nI 0) rfl 3 rfl d_Led_failing_2 ?_
  refine r_istore (ls2 := [some (.ref (a 0)), some (.int (nI T)), some (.int (nI R)), some (.int (nI T)), some (.int (nI 0)), none, none, none]) 5 rfl d_Led_failing_3 (by decide) rfl rfl ?_
  have L5_1 : ∀ (f : Nat) (S : Nat) (i : Nat), (S < 64) → (i ≤ 6) → (cz S + i ≤ 6) → (fl (ν 0 3) (rp (σ 1) R) (σ 2) (7 - i) S = fails (ν 0 3) (rp (σ 1) R) (σ 2) T) → 6 - i < f → Runs X 5 M_Led_failing 0 0 Q 5 [some (.ref (a 0)), some (.int (nI T)), some (.int (nI R)), some (.int (nI S)), some (.int (nI i)), none, none, none] [] 0 0 (LW X a ν σ τ) := by
    intro f
    induction f with
    | zero => intro S i hS hi hc hf hmu; exact absurd hmu (Nat.not_lt_zero _)
    | succ f ih2 =>
      intro S i hS hi hc hf hmu
      refine r_iload rfl 7 rfl d_Led_failing_5 ?_
      refine r_bipush (nI 6) rfl 9 rfl d_Led_failing_7 ?_
      refine r_icmp_geN i 6 (by omega) (by omega) 12 92 rfl rfl d_Led_failing_9 (fun h9 => ?_) (fun h9 => ?_)
      · refine r_iload_n rfl 93 rfl d_Led_failing_92 ?_
        exact r_iret rfl (Nat.zero_le _) (Nat.zero_le _) d_Led_failing_93 (by rw [← hQ]; exact ⟨by rw [← hf]; exact congrArg (fun z => some (Value.int (nI z))) (fl_full hS hn6 (by omega)).symm, rfl⟩)
      · refine r_iload_n rfl 13 rfl d_Led_failing_12 ?_
        refine r_istore (ls2 := [some (.ref (a 0)), some (.int (nI T)), some (.int (nI R)), some (.int (nI S)), some (.int (nI i)), some (.int (nI S)), none, none]) 15 rfl d_Led_failing_13 (by decide) rfl rfl ?_
        refine r_iconst (nI 0) rfl 16 rfl d_Led_failing_15 ?_
        refine r_istore (ls2 := [some (.ref (a 0)), some (.int (nI T)), some (.int (nI R)), some (.int (nI S)), some (.int (nI i)), some (.int (nI S)), some (.int (nI 0)), none]) 18 rfl d_Led_failing_16 (by decide) rfl rfl ?_
        have L18_3 : ∀ (f : Nat) (k : Nat), (k ≤ ν 0 3) → ν 0 3 - k < f → Runs X 5 M_Led_failing 0 0 Q 18 [some (.ref (a 0)), some (.int (nI T)), some (.int (nI R)), some (.int (nI (fr (ν 0 3) (rp (σ 1) R) (σ 2) S k))), some (.int (nI i)), some (.int (nI S)), some (.int (nI k)), none] [] 0 0 (LW X a ν σ τ) := by
          intro f
          induction f with
          | zero => intro k hk hmu; exact absurd hmu (Nat.not_lt_zero _)
          | succ f ih4 =>
            intro k hk hmu
            refine r_iload rfl 20 rfl d_Led_failing_18 ?_
            refine r_aload_n rfl 21 rfl d_Led_failing_20 ?_
            refine r_getf (v := .int (nI (ν 0 3))) gf_Led_27 0 rfl rfl 24 rfl d_Led_failing_21 ?_
            refine r_icmp_geN k (ν 0 3) (by omega) (by omega) 27 77 rfl rfl d_Led_failing_24 (fun h24 => ?_) (fun h24 => ?_)
            · have ek : k = ν 0 3 := by omega
              refine r_iload_n rfl 78 rfl d_Led_failing_77 ?_
              refine r_iload rfl 80 rfl d_Led_failing_78 ?_
              refine r_icmp_neN (fr (ν 0 3) (rp (σ 1) R) (σ 2) S k) S (Nat.lt_trans (fr_lt hS (by omega)) (by decide)) (Nat.lt_trans hS (by decide)) 83 86 rfl rfl d_Led_failing_80 (fun h80 => ?_) (fun h80 => ?_)
              · refine r_iinc (ls2 := [some (.ref (a 0)), some (.int (nI T)), some (.int (nI R)), some (.int (nI (fr (ν 0 3) (rp (σ 1) R) (σ 2) S k))), some (.int (nI (i + 1))), some (.int (nI S)), some (.int (nI k)), none]) (nI (i + 1)) rfl (nI_1 _) 89 rfl d_Led_failing_86 (by decide) rfl rfl ?_
                refine r_goto 5 rfl d_Led_failing_89 ?_
                refine r_forget (ls2 := [some (.ref (a 0)), some (.int (nI T)), some (.int (nI R)), some (.int (nI (fr (ν 0 3) (rp (σ 1) R) (σ 2) S k))), some (.int (nI (i + 1))), none, some (.int (nI k)), none]) 5 rfl ?_
                refine r_forget (ls2 := [some (.ref (a 0)), some (.int (nI T)), some (.int (nI R)), some (.int (nI (fr (ν 0 3) (rp (σ 1) R) (σ 2) S k))), some (.int (nI (i + 1))), none, none, none]) 6 rfl ?_
                refine Runs.cast (ih2 (fr (ν 0 3) (rp (σ 1) R) (σ 2) S (ν 0 3)) (i + 1) (fr_lt hS (by omega)) (by omega) (by have := fr_ne (n := ν 0 3) (pu := rp (σ 1) R) (de := σ 2) hS (k := ν 0 3) (by omega) (by rw [ek] at h80; exact h80); omega) (by rw [← hf, show 7 - i = (7 - (i + 1)) + 1 by omega]; exact (fl_go hS (by omega) (by rw [ek] at h80; exact h80)).symm) (by omega)) (by rw [ek]; try rfl) rfl (rfl)
              · refine r_goto 92 rfl d_Led_failing_83 ?_
                refine r_iload_n rfl 93 rfl d_Led_failing_92 ?_
                exact r_iret rfl (Nat.zero_le _) (Nat.zero_le _) d_Led_failing_93 (by rw [← hQ]; exact ⟨by rw [← hf, ek]; rw [ek] at h80; rw [h80]; exact congrArg (fun z => some (Value.int (nI z))) (fl_stay hS hn6 (by omega) h80).symm, rfl⟩)
            · refine r_iload_n rfl 28 rfl d_Led_failing_27 ?_
              refine r_iload rfl 30 rfl d_Led_failing_28 ?_
              refine r_callSn1 (st2 := [.int (bI (hb R k))]) (w2 := LW X a ν σ τ) lk_HB_hasBit ln_Led_43 (c_hasBit X R k (hR) (by omega)) (by first | decide | omega) rfl rfl (Nat.le_of_ble_eq_true rfl) (Nat.le_of_ble_eq_true rfl) (Nat.le_of_ble_eq_true rfl) [] rfl rfl rfl rfl rfl 33 rfl d_Led_failing_30 ?_
              refine r_if_eqB 36 41 rfl rfl d_Led_failing_33 (fun h33 => ?_) (fun h33 => ?_)
              · have eR : rp (σ 1) R k = σ 1 k := rp_f h33
                refine r_aload_n rfl 42 rfl d_Led_failing_41 ?_
                refine r_getf (v := .ref (a 1)) gf_Led_9 0 rfl rfl 45 rfl d_Led_failing_42 ?_
                refine r_iload rfl 47 rfl d_Led_failing_45 ?_
                refine r_callSn1 (st2 := [.int (σ 1 k)]) (w2 := LW X a ν σ τ) lk_HB_at ln_Led_35 (c_at X _ 6 k (σ 1) (by omega) (by decide)) (by first | decide | omega) rfl rfl (Nat.le_of_ble_eq_true rfl) (Nat.le_of_ble_eq_true rfl) (Nat.le_of_ble_eq_true rfl) [1] rfl rfl rfl rfl rfl 50 rfl d_Led_failing_47 ?_
                refine r_istore (ls2 := [some (.ref (a 0)), some (.int (nI T)), some (.int (nI R)), some (.int (nI (fr (ν 0 3) (rp (σ 1) R) (σ 2) S k))), some (.int (nI i)), some (.int (nI S)), some (.int (nI k)), some (.int (σ 1 k))]) 52 rfl d_Led_failing_50 (by decide) rfl rfl ?_
                refine r_aload_n rfl 53 rfl d_Led_failing_52 ?_
                refine r_iload rfl 55 rfl d_Led_failing_53 ?_
                refine r_iload rfl 57 rfl d_Led_failing_55 ?_
                refine r_iload_n rfl 58 rfl d_Led_failing_57 ?_
                refine r_callVA1 (st2 := [.int (bI (cantX (ν 0 3) (σ 1 k) (σ 2) (fr (ν 0 3) (rp (σ 1) R) (σ 2) S k) k))]) (w2 := LW X a ν σ τ) lk_Led_cannotPay ln_Led_60 (c_Led_cannotPay X a ν σ τ  k (σ 1 k) (fr (ν 0 3) (rp (σ 1) R) (σ 2) S k) (hn6) (by omega) (fr_lt hS (by omega))) (by first | decide | omega) rfl rfl (Nat.le_of_ble_eq_true rfl) (Nat.le_of_ble_eq_true rfl) (Nat.le_of_ble_eq_true rfl) 0 rfl rfl rfl rfl 61 rfl d_Led_failing_58 ?_
                refine r_if_eqB 64 71 rfl rfl d_Led_failing_61 (fun h61 => ?_) (fun h61 => ?_)
                · have eC : fr (ν 0 3) (rp (σ 1) R) (σ 2) S (k + 1) = fr (ν 0 3) (rp (σ 1) R) (σ 2) S k := fr_n eR hS (by omega) h61
                  refine r_iinc (ls2 := [some (.ref (a 0)), some (.int (nI T)), some (.int (nI R)), some (.int (nI (fr (ν 0 3) (rp (σ 1) R) (σ 2) S k))), some (.int (nI i)), some (.int (nI S)), some (.int (nI (k + 1))), some (.int (σ 1 k))]) (nI (k + 1)) rfl (nI_1 _) 74 rfl d_Led_failing_71 (by decide) rfl rfl ?_
                  refine r_goto 18 rfl d_Led_failing_74 ?_
                  refine r_forget (ls2 := [some (.ref (a 0)), some (.int (nI T)), some (.int (nI R)), some (.int (nI (fr (ν 0 3) (rp (σ 1) R) (σ 2) S k))), some (.int (nI i)), some (.int (nI S)), some (.int (nI (k + 1))), none]) 7 rfl ?_
                  refine Runs.cast (ih4 (k + 1) (by omega) (by omega)) (by rw [eC]; try rfl) rfl (rfl)
                · have eC : fr (ν 0 3) (rp (σ 1) R) (σ 2) S (k + 1) = fr (ν 0 3) (rp (σ 1) R) (σ 2) S k ||| 1 <<< k := fr_y eR hS (by omega) h61
                  refine r_iload_n rfl 65 rfl d_Led_failing_64 ?_
                  refine r_iconst (nI 1) rfl 66 rfl d_Led_failing_65 ?_
                  refine r_iload rfl 68 rfl d_Led_failing_66 ?_
                  refine r_ishl 69 rfl d_Led_failing_68 ?_
                  refine r_topi (nI (1 <<< k)) (nI_shl (by omega) (one_shl (by omega))) ?_
                  refine r_ior 70 rfl d_Led_failing_69 ?_
                  refine r_topi (nI ((fr (ν 0 3) (rp (σ 1) R) (σ 2) S k) ||| (1 <<< k))) (nx_or _ _) ?_
                  refine r_istore_n (ls2 := [some (.ref (a 0)), some (.int (nI T)), some (.int (nI R)), some (.int (nI ((fr (ν 0 3) (rp (σ 1) R) (σ 2) S k) ||| (1 <<< k)))), some (.int (nI i)), some (.int (nI S)), some (.int (nI k)), some (.int (σ 1 k))]) 71 rfl d_Led_failing_70 (by decide) rfl rfl ?_
                  refine r_iinc (ls2 := [some (.ref (a 0)), some (.int (nI T)), some (.int (nI R)), some (.int (nI ((fr (ν 0 3) (rp (σ 1) R) (σ 2) S k) ||| (1 <<< k)))), some (.int (nI i)), some (.int (nI S)), some (.int (nI (k + 1))), some (.int (σ 1 k))]) (nI (k + 1)) rfl (nI_1 _) 74 rfl d_Led_failing_71 (by decide) rfl rfl ?_
                  refine r_goto 18 rfl d_Led_failing_74 ?_
                  refine r_forget (ls2 := [some (.ref (a 0)), some (.int (nI T)), some (.int (nI R)), some (.int (nI ((fr (ν 0 3) (rp (σ 1) R) (σ 2) S k) ||| (1 <<< k)))), some (.int (nI i)), some (.int (nI S)), some (.int (nI (k + 1))), none]) 7 rfl ?_
                  refine Runs.cast (ih4 (k + 1) (by omega) (by omega)) (by rw [eC]; try rfl) rfl (rfl)
              · have eR : rp (σ 1) R k = nI 99999 := rp_t h33
                refine r_ldc (v := (99999)) (inTB 393 (by decide +kernel) rfl) 38 rfl d_Led_failing_36 ?_
                refine r_topi (nI 99999) rfl ?_
                refine r_goto 50 rfl d_Led_failing_38 ?_
                refine r_istore (ls2 := [some (.ref (a 0)), some (.int (nI T)), some (.int (nI R)), some (.int (nI (fr (ν 0 3) (rp (σ 1) R) (σ 2) S k))), some (.int (nI i)), some (.int (nI S)), some (.int (nI k)), some (.int (nI 99999))]) 52 rfl d_Led_failing_50 (by decide) rfl rfl ?_
                refine r_aload_n rfl 53 rfl d_Led_failing_52 ?_
                refine r_iload rfl 55 rfl d_Led_failing_53 ?_
                refine r_iload rfl 57 rfl d_Led_failing_55 ?_
                refine r_iload_n rfl 58 rfl d_Led_failing_57 ?_
                refine r_callVA1 (st2 := [.int (bI (cantX (ν 0 3) (nI 99999) (σ 2) (fr (ν 0 3) (rp (σ 1) R) (σ 2) S k) k))]) (w2 := LW X a ν σ τ) lk_Led_cannotPay ln_Led_60 (c_Led_cannotPay X a ν σ τ  k (nI 99999) (fr (ν 0 3) (rp (σ 1) R) (σ 2) S k) (hn6) (by omega) (fr_lt hS (by omega))) (by first | decide | omega) rfl rfl (Nat.le_of_ble_eq_true rfl) (Nat.le_of_ble_eq_true rfl) (Nat.le_of_ble_eq_true rfl) 0 rfl rfl rfl rfl 61 rfl d_Led_failing_58 ?_
                refine r_if_eqB 64 71 rfl rfl d_Led_failing_61 (fun h61 => ?_) (fun h61 => ?_)
                · have eC : fr (ν 0 3) (rp (σ 1) R) (σ 2) S (k + 1) = fr (ν 0 3) (rp (σ 1) R) (σ 2) S k := fr_n eR hS (by omega) h61
                  refine r_iinc (ls2 := [some (.ref (a 0)), some (.int (nI T)), some (.int (nI R)), some (.int (nI (fr (ν 0 3) (rp (σ 1) R) (σ 2) S k))), some (.int (nI i)), some (.int (nI S)), some (.int (nI (k + 1))), some (.int (nI 99999))]) (nI (k + 1)) rfl (nI_1 _) 74 rfl d_Led_failing_71 (by decide) rfl rfl ?_
                  refine r_goto 18 rfl d_Led_failing_74 ?_
                  refine r_forget (ls2 := [some (.ref (a 0)), some (.int (nI T)), some (.int (nI R)), some (.int (nI (fr (ν 0 3) (rp (σ 1) R) (σ 2) S k))), some (.int (nI i)), some (.int (nI S)), some (.int (nI (k + 1))), none]) 7 rfl ?_
                  refine Runs.cast (ih4 (k + 1) (by omega) (by omega)) (by rw [eC]; try rfl) rfl (rfl)
                · have eC : fr (ν 0 3) (rp (σ 1) R) (σ 2) S (k + 1) = fr (ν 0 3) (rp (σ 1) R) (σ 2) S k ||| 1 <<< k := fr_y eR hS (by omega) h61
                  refine r_iload_n rfl 65 rfl d_Led_failing_64 ?_
                  refine r_iconst (nI 1) rfl 66 rfl d_Led_failing_65 ?_
                  refine r_iload rfl 68 rfl d_Led_failing_66 ?_
                  refine r_ishl 69 rfl d_Led_failing_68 ?_
                  refine r_topi (nI (1 <<< k)) (nI_shl (by omega) (one_shl (by omega))) ?_
                  refine r_ior 70 rfl d_Led_failing_69 ?_
                  refine r_topi (nI ((fr (ν 0 3) (rp (σ 1) R) (σ 2) S k) ||| (1 <<< k))) (nx_or _ _) ?_
                  refine r_istore_n (ls2 := [some (.ref (a 0)), some (.int (nI T)), some (.int (nI R)), some (.int (nI ((fr (ν 0 3) (rp (σ 1) R) (σ 2) S k) ||| (1 <<< k)))), some (.int (nI i)), some (.int (nI S)), some (.int (nI k)), some (.int (nI 99999))]) 71 rfl d_Led_failing_70 (by decide) rfl rfl ?_
                  refine r_iinc (ls2 := [some (.ref (a 0)), some (.int (nI T)), some (.int (nI R)), some (.int (nI ((fr (ν 0 3) (rp (σ 1) R) (σ 2) S k) ||| (1 <<< k)))), some (.int (nI i)), some (.int (nI S)), some (.int (nI (k + 1))), some (.int (nI 99999))]) (nI (k + 1)) rfl (nI_1 _) 74 rfl d_Led_failing_71 (by decide) rfl rfl ?_
                  refine r_goto 18 rfl d_Led_failing_74 ?_
                  refine r_forget (ls2 := [some (.ref (a 0)), some (.int (nI T)), some (.int (nI R)), some (.int (nI ((fr (ν 0 3) (rp (σ 1) R) (σ 2) S k) ||| (1 <<< k)))), some (.int (nI i)), some (.int (nI S)), some (.int (nI (k + 1))), none]) 7 rfl ?_
                  refine Runs.cast (ih4 (k + 1) (by omega) (by omega)) (by rw [eC]; try rfl) rfl (rfl)
        exact L18_3 _ 0 (by omega) (Nat.lt_succ_self _)
  exact L5_1 _ T 0 (hT) (by omega) (by have := cz_le T; omega) (rfl) (Nat.lt_succ_self _)
