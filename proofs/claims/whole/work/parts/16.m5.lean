def M_Mod_ring : XM := (⟨"HandshakeBindsModel", "ring", "()I"⟩, prog_11_method_44_code, 3, (some .int))
theorem d_Mod_ring_0 : decode M_Mod_ring.2.1 0 = .ok (.iconst 0, 1) := by decide +kernel
theorem d_Mod_ring_1 : decode M_Mod_ring.2.1 1 = .ok (.istore_n 1, 1) := by decide +kernel
theorem d_Mod_ring_2 : decode M_Mod_ring.2.1 2 = .ok (.iconst 0, 1) := by decide +kernel
theorem d_Mod_ring_3 : decode M_Mod_ring.2.1 3 = .ok (.istore_n 2, 1) := by decide +kernel
theorem d_Mod_ring_4 : decode M_Mod_ring.2.1 4 = .ok (.iload_n 2, 1) := by decide +kernel
theorem d_Mod_ring_5 : decode M_Mod_ring.2.1 5 = .ok (.aload_n 0, 1) := by decide +kernel
theorem d_Mod_ring_6 : decode M_Mod_ring.2.1 6 = .ok (.getfield 111, 3) := by decide +kernel
theorem d_Mod_ring_9 : decode M_Mod_ring.2.1 9 = .ok (.if_icmp .ge 24, 3) := by decide +kernel
theorem d_Mod_ring_33 : decode M_Mod_ring.2.1 33 = .ok (.iload_n 1, 1) := by decide +kernel
theorem d_Mod_ring_34 : decode M_Mod_ring.2.1 34 = .ok (.ireturn, 1) := by decide +kernel
theorem d_Mod_ring_12 : decode M_Mod_ring.2.1 12 = .ok (.iload_n 1, 1) := by decide +kernel
theorem d_Mod_ring_13 : decode M_Mod_ring.2.1 13 = .ok (.aload_n 0, 1) := by decide +kernel
theorem d_Mod_ring_14 : decode M_Mod_ring.2.1 14 = .ok (.iload_n 2, 1) := by decide +kernel
theorem d_Mod_ring_15 : decode M_Mod_ring.2.1 15 = .ok (.iload_n 2, 1) := by decide +kernel
theorem d_Mod_ring_16 : decode M_Mod_ring.2.1 16 = .ok (.iconst 1, 1) := by decide +kernel
theorem d_Mod_ring_17 : decode M_Mod_ring.2.1 17 = .ok (.iload_n 2, 1) := by decide +kernel
theorem d_Mod_ring_18 : decode M_Mod_ring.2.1 18 = .ok (.ishl, 1) := by decide +kernel
theorem d_Mod_ring_19 : decode M_Mod_ring.2.1 19 = .ok (.iconst 1, 1) := by decide +kernel
theorem d_Mod_ring_20 : decode M_Mod_ring.2.1 20 = .ok (.invokevirtual 276, 3) := by decide +kernel
theorem d_Mod_ring_23 : decode M_Mod_ring.2.1 23 = .ok (.invokestatic 273, 3) := by decide +kernel
theorem d_Mod_ring_26 : decode M_Mod_ring.2.1 26 = .ok (.istore_n 1, 1) := by decide +kernel
theorem d_Mod_ring_27 : decode M_Mod_ring.2.1 27 = .ok (.iinc 2 1, 3) := by decide +kernel
theorem d_Mod_ring_30 : decode M_Mod_ring.2.1 30 = .ok (.goto (-26), 3) := by decide +kernel
def M_Mod_offset : XM := (⟨"HandshakeBindsModel", "offset", "()I"⟩, prog_11_method_45_code, 4, (some .int))
theorem d_Mod_offset_0 : decode M_Mod_offset.2.1 0 = .ok (.iconst 0, 1) := by decide +kernel
theorem d_Mod_offset_1 : decode M_Mod_offset.2.1 1 = .ok (.istore_n 1, 1) := by decide +kernel
theorem d_Mod_offset_2 : decode M_Mod_offset.2.1 2 = .ok (.iconst 0, 1) := by decide +kernel
theorem d_Mod_offset_3 : decode M_Mod_offset.2.1 3 = .ok (.istore_n 2, 1) := by decide +kernel
theorem d_Mod_offset_4 : decode M_Mod_offset.2.1 4 = .ok (.iload_n 2, 1) := by decide +kernel
theorem d_Mod_offset_5 : decode M_Mod_offset.2.1 5 = .ok (.aload_n 0, 1) := by decide +kernel
theorem d_Mod_offset_6 : decode M_Mod_offset.2.1 6 = .ok (.getfield 111, 3) := by decide +kernel
theorem d_Mod_offset_9 : decode M_Mod_offset.2.1 9 = .ok (.if_icmp .ge 56, 3) := by decide +kernel
theorem d_Mod_offset_65 : decode M_Mod_offset.2.1 65 = .ok (.iload_n 1, 1) := by decide +kernel
theorem d_Mod_offset_66 : decode M_Mod_offset.2.1 66 = .ok (.ireturn, 1) := by decide +kernel
theorem d_Mod_offset_12 : decode M_Mod_offset.2.1 12 = .ok (.iload_n 2, 1) := by decide +kernel
theorem d_Mod_offset_13 : decode M_Mod_offset.2.1 13 = .ok (.iconst 1, 1) := by decide +kernel
theorem d_Mod_offset_14 : decode M_Mod_offset.2.1 14 = .ok (.iadd, 1) := by decide +kernel
theorem d_Mod_offset_15 : decode M_Mod_offset.2.1 15 = .ok (.istore_n 3, 1) := by decide +kernel
theorem d_Mod_offset_16 : decode M_Mod_offset.2.1 16 = .ok (.iload_n 3, 1) := by decide +kernel
theorem d_Mod_offset_17 : decode M_Mod_offset.2.1 17 = .ok (.aload_n 0, 1) := by decide +kernel
theorem d_Mod_offset_18 : decode M_Mod_offset.2.1 18 = .ok (.getfield 111, 3) := by decide +kernel
theorem d_Mod_offset_21 : decode M_Mod_offset.2.1 21 = .ok (.if_icmp .ge 38, 3) := by decide +kernel
theorem d_Mod_offset_59 : decode M_Mod_offset.2.1 59 = .ok (.iinc 2 1, 3) := by decide +kernel
theorem d_Mod_offset_62 : decode M_Mod_offset.2.1 62 = .ok (.goto (-58), 3) := by decide +kernel
theorem d_Mod_offset_24 : decode M_Mod_offset.2.1 24 = .ok (.iload_n 1, 1) := by decide +kernel
theorem d_Mod_offset_25 : decode M_Mod_offset.2.1 25 = .ok (.aload_n 0, 1) := by decide +kernel
theorem d_Mod_offset_26 : decode M_Mod_offset.2.1 26 = .ok (.getfield 24, 3) := by decide +kernel
theorem d_Mod_offset_29 : decode M_Mod_offset.2.1 29 = .ok (.bipush 6, 2) := by decide +kernel
theorem d_Mod_offset_31 : decode M_Mod_offset.2.1 31 = .ok (.iload_n 2, 1) := by decide +kernel
theorem d_Mod_offset_32 : decode M_Mod_offset.2.1 32 = .ok (.imul, 1) := by decide +kernel
theorem d_Mod_offset_33 : decode M_Mod_offset.2.1 33 = .ok (.iload_n 3, 1) := by decide +kernel
theorem d_Mod_offset_34 : decode M_Mod_offset.2.1 34 = .ok (.iadd, 1) := by decide +kernel
theorem d_Mod_offset_35 : decode M_Mod_offset.2.1 35 = .ok (.iaload, 1) := by decide +kernel
theorem d_Mod_offset_36 : decode M_Mod_offset.2.1 36 = .ok (.aload_n 0, 1) := by decide +kernel
theorem d_Mod_offset_37 : decode M_Mod_offset.2.1 37 = .ok (.getfield 24, 3) := by decide +kernel
theorem d_Mod_offset_40 : decode M_Mod_offset.2.1 40 = .ok (.bipush 6, 2) := by decide +kernel
theorem d_Mod_offset_42 : decode M_Mod_offset.2.1 42 = .ok (.iload_n 3, 1) := by decide +kernel
theorem d_Mod_offset_43 : decode M_Mod_offset.2.1 43 = .ok (.imul, 1) := by decide +kernel
theorem d_Mod_offset_44 : decode M_Mod_offset.2.1 44 = .ok (.iload_n 2, 1) := by decide +kernel
theorem d_Mod_offset_45 : decode M_Mod_offset.2.1 45 = .ok (.iadd, 1) := by decide +kernel
theorem d_Mod_offset_46 : decode M_Mod_offset.2.1 46 = .ok (.iaload, 1) := by decide +kernel
theorem d_Mod_offset_47 : decode M_Mod_offset.2.1 47 = .ok (.isub, 1) := by decide +kernel
theorem d_Mod_offset_48 : decode M_Mod_offset.2.1 48 = .ok (.invokestatic 279, 3) := by decide +kernel
theorem d_Mod_offset_51 : decode M_Mod_offset.2.1 51 = .ok (.iadd, 1) := by decide +kernel
theorem d_Mod_offset_52 : decode M_Mod_offset.2.1 52 = .ok (.istore_n 1, 1) := by decide +kernel
theorem d_Mod_offset_53 : decode M_Mod_offset.2.1 53 = .ok (.iinc 3 1, 3) := by decide +kernel
theorem d_Mod_offset_56 : decode M_Mod_offset.2.1 56 = .ok (.goto (-40), 3) := by decide +kernel
def M_Mod_allDebt : XM := (⟨"HandshakeBindsModel", "allDebt", "()I"⟩, prog_11_method_46_code, 3, (some .int))
theorem d_Mod_allDebt_0 : decode M_Mod_allDebt.2.1 0 = .ok (.iconst 0, 1) := by decide +kernel
theorem d_Mod_allDebt_1 : decode M_Mod_allDebt.2.1 1 = .ok (.istore_n 1, 1) := by decide +kernel
theorem d_Mod_allDebt_2 : decode M_Mod_allDebt.2.1 2 = .ok (.iconst 0, 1) := by decide +kernel
theorem d_Mod_allDebt_3 : decode M_Mod_allDebt.2.1 3 = .ok (.istore_n 2, 1) := by decide +kernel
theorem d_Mod_allDebt_4 : decode M_Mod_allDebt.2.1 4 = .ok (.iload_n 2, 1) := by decide +kernel
theorem d_Mod_allDebt_5 : decode M_Mod_allDebt.2.1 5 = .ok (.aload_n 0, 1) := by decide +kernel
theorem d_Mod_allDebt_6 : decode M_Mod_allDebt.2.1 6 = .ok (.getfield 111, 3) := by decide +kernel
theorem d_Mod_allDebt_9 : decode M_Mod_allDebt.2.1 9 = .ok (.if_icmp .ge 17, 3) := by decide +kernel
theorem d_Mod_allDebt_26 : decode M_Mod_allDebt.2.1 26 = .ok (.iload_n 1, 1) := by decide +kernel
theorem d_Mod_allDebt_27 : decode M_Mod_allDebt.2.1 27 = .ok (.ireturn, 1) := by decide +kernel
theorem d_Mod_allDebt_12 : decode M_Mod_allDebt.2.1 12 = .ok (.iload_n 1, 1) := by decide +kernel
theorem d_Mod_allDebt_13 : decode M_Mod_allDebt.2.1 13 = .ok (.aload_n 0, 1) := by decide +kernel
theorem d_Mod_allDebt_14 : decode M_Mod_allDebt.2.1 14 = .ok (.iload_n 2, 1) := by decide +kernel
theorem d_Mod_allDebt_15 : decode M_Mod_allDebt.2.1 15 = .ok (.invokevirtual 126, 3) := by decide +kernel
theorem d_Mod_allDebt_18 : decode M_Mod_allDebt.2.1 18 = .ok (.iadd, 1) := by decide +kernel
theorem d_Mod_allDebt_19 : decode M_Mod_allDebt.2.1 19 = .ok (.istore_n 1, 1) := by decide +kernel
theorem d_Mod_allDebt_20 : decode M_Mod_allDebt.2.1 20 = .ok (.iinc 2 1, 3) := by decide +kernel
theorem d_Mod_allDebt_23 : decode M_Mod_allDebt.2.1 23 = .ok (.goto (-19), 3) := by decide +kernel
def M_Mod_owe : XM := (⟨"HandshakeBindsModel", "owe", "(III)I"⟩, prog_11_method_11_code, 5, (some .int))
theorem d_Mod_owe_0 : decode M_Mod_owe.2.1 0 = .ok (.aload_n 0, 1) := by decide +kernel
theorem d_Mod_owe_1 : decode M_Mod_owe.2.1 1 = .ok (.iload_n 1, 1) := by decide +kernel
theorem d_Mod_owe_2 : decode M_Mod_owe.2.1 2 = .ok (.iload_n 2, 1) := by decide +kernel
theorem d_Mod_owe_3 : decode M_Mod_owe.2.1 3 = .ok (.invokevirtual 140, 3) := by decide +kernel
theorem ln_Mod_140 : Cond.methodLink "HandshakeBindsModel" 140 M_Mod_are.1 ∈ TB := inTB 1030 (by decide +kernel) rfl
theorem lk_Mod_are : LVt M_Mod_are 2 := ⟨⟨inTB 72 (by decide +kernel) rfl, inTB 1033 (by decide +kernel) rfl, ⟨by decide, by decide, by decide +kernel⟩, by decide⟩, inTB 1032 (by decide +kernel) rfl, inTB 26 (by decide +kernel) rfl⟩
theorem d_Mod_owe_6 : decode M_Mod_owe.2.1 6 = .ok (.ifCond .ne 5, 3) := by decide +kernel
theorem d_Mod_owe_11 : decode M_Mod_owe.2.1 11 = .ok (.iload_n 1, 1) := by decide +kernel
theorem d_Mod_owe_12 : decode M_Mod_owe.2.1 12 = .ok (.iload_n 2, 1) := by decide +kernel
theorem d_Mod_owe_13 : decode M_Mod_owe.2.1 13 = .ok (.if_icmp .eq 14, 3) := by decide +kernel
theorem d_Mod_owe_27 : decode M_Mod_owe.2.1 27 = .ok (.bipush (-2), 2) := by decide +kernel
theorem d_Mod_owe_29 : decode M_Mod_owe.2.1 29 = .ok (.ireturn, 1) := by decide +kernel
theorem d_Mod_owe_16 : decode M_Mod_owe.2.1 16 = .ok (.iload_n 3, 1) := by decide +kernel
theorem d_Mod_owe_17 : decode M_Mod_owe.2.1 17 = .ok (.iconst 0, 1) := by decide +kernel
theorem d_Mod_owe_18 : decode M_Mod_owe.2.1 18 = .ok (.sipush 9999, 3) := by decide +kernel
theorem d_Mod_owe_21 : decode M_Mod_owe.2.1 21 = .ok (.invokestatic 114, 3) := by decide +kernel
theorem d_Mod_owe_24 : decode M_Mod_owe.2.1 24 = .ok (.ifCond .ne 6, 3) := by decide +kernel
theorem d_Mod_owe_30 : decode M_Mod_owe.2.1 30 = .ok (.aload_n 0, 1) := by decide +kernel
theorem d_Mod_owe_31 : decode M_Mod_owe.2.1 31 = .ok (.getfield 24, 3) := by decide +kernel
theorem d_Mod_owe_34 : decode M_Mod_owe.2.1 34 = .ok (.bipush 6, 2) := by decide +kernel
theorem d_Mod_owe_36 : decode M_Mod_owe.2.1 36 = .ok (.iload_n 1, 1) := by decide +kernel
theorem d_Mod_owe_37 : decode M_Mod_owe.2.1 37 = .ok (.imul, 1) := by decide +kernel
theorem d_Mod_owe_38 : decode M_Mod_owe.2.1 38 = .ok (.iload_n 2, 1) := by decide +kernel
theorem d_Mod_owe_39 : decode M_Mod_owe.2.1 39 = .ok (.iadd, 1) := by decide +kernel
theorem d_Mod_owe_40 : decode M_Mod_owe.2.1 40 = .ok (.iaload, 1) := by decide +kernel
theorem d_Mod_owe_41 : decode M_Mod_owe.2.1 41 = .ok (.istore 4, 2) := by decide +kernel
theorem d_Mod_owe_43 : decode M_Mod_owe.2.1 43 = .ok (.aload_n 0, 1) := by decide +kernel
theorem d_Mod_owe_44 : decode M_Mod_owe.2.1 44 = .ok (.getfield 24, 3) := by decide +kernel
theorem d_Mod_owe_47 : decode M_Mod_owe.2.1 47 = .ok (.bipush 6, 2) := by decide +kernel
theorem d_Mod_owe_49 : decode M_Mod_owe.2.1 49 = .ok (.iload_n 1, 1) := by decide +kernel
theorem d_Mod_owe_50 : decode M_Mod_owe.2.1 50 = .ok (.imul, 1) := by decide +kernel
theorem d_Mod_owe_51 : decode M_Mod_owe.2.1 51 = .ok (.iload_n 2, 1) := by decide +kernel
theorem d_Mod_owe_52 : decode M_Mod_owe.2.1 52 = .ok (.iadd, 1) := by decide +kernel
theorem d_Mod_owe_53 : decode M_Mod_owe.2.1 53 = .ok (.iload_n 3, 1) := by decide +kernel
theorem d_Mod_owe_54 : decode M_Mod_owe.2.1 54 = .ok (.iastore, 1) := by decide +kernel
theorem d_Mod_owe_55 : decode M_Mod_owe.2.1 55 = .ok (.iload 4, 2) := by decide +kernel
theorem d_Mod_owe_57 : decode M_Mod_owe.2.1 57 = .ok (.ireturn, 1) := by decide +kernel
theorem d_Mod_owe_9 : decode M_Mod_owe.2.1 9 = .ok (.iconst (-1), 1) := by decide +kernel
theorem d_Mod_owe_10 : decode M_Mod_owe.2.1 10 = .ok (.ireturn, 1) := by decide +kernel
def M_Mod_purse : XM := (⟨"HandshakeBindsModel", "purse", "(II)I"⟩, prog_11_method_12_code, 4, (some .int))
theorem d_Mod_purse_0 : decode M_Mod_purse.2.1 0 = .ok (.aload_n 0, 1) := by decide +kernel
theorem d_Mod_purse_1 : decode M_Mod_purse.2.1 1 = .ok (.iload_n 1, 1) := by decide +kernel
theorem d_Mod_purse_2 : decode M_Mod_purse.2.1 2 = .ok (.invokevirtual 118, 3) := by decide +kernel
theorem d_Mod_purse_5 : decode M_Mod_purse.2.1 5 = .ok (.ifCond .ne 5, 3) := by decide +kernel
theorem d_Mod_purse_10 : decode M_Mod_purse.2.1 10 = .ok (.iload_n 2, 1) := by decide +kernel
theorem d_Mod_purse_11 : decode M_Mod_purse.2.1 11 = .ok (.iconst 0, 1) := by decide +kernel
theorem d_Mod_purse_12 : decode M_Mod_purse.2.1 12 = .ok (.sipush 9999, 3) := by decide +kernel
theorem d_Mod_purse_15 : decode M_Mod_purse.2.1 15 = .ok (.invokestatic 114, 3) := by decide +kernel
theorem d_Mod_purse_18 : decode M_Mod_purse.2.1 18 = .ok (.ifCond .ne 6, 3) := by decide +kernel
theorem d_Mod_purse_24 : decode M_Mod_purse.2.1 24 = .ok (.aload_n 0, 1) := by decide +kernel
theorem d_Mod_purse_25 : decode M_Mod_purse.2.1 25 = .ok (.getfield 18, 3) := by decide +kernel
theorem d_Mod_purse_28 : decode M_Mod_purse.2.1 28 = .ok (.iload_n 1, 1) := by decide +kernel
theorem d_Mod_purse_29 : decode M_Mod_purse.2.1 29 = .ok (.iaload, 1) := by decide +kernel
theorem d_Mod_purse_30 : decode M_Mod_purse.2.1 30 = .ok (.istore_n 3, 1) := by decide +kernel
theorem d_Mod_purse_31 : decode M_Mod_purse.2.1 31 = .ok (.aload_n 0, 1) := by decide +kernel
theorem d_Mod_purse_32 : decode M_Mod_purse.2.1 32 = .ok (.getfield 18, 3) := by decide +kernel
theorem d_Mod_purse_35 : decode M_Mod_purse.2.1 35 = .ok (.iload_n 1, 1) := by decide +kernel
theorem d_Mod_purse_36 : decode M_Mod_purse.2.1 36 = .ok (.iload_n 2, 1) := by decide +kernel
theorem d_Mod_purse_37 : decode M_Mod_purse.2.1 37 = .ok (.iastore, 1) := by decide +kernel
theorem d_Mod_purse_38 : decode M_Mod_purse.2.1 38 = .ok (.iload_n 3, 1) := by decide +kernel
theorem d_Mod_purse_39 : decode M_Mod_purse.2.1 39 = .ok (.ireturn, 1) := by decide +kernel
theorem d_Mod_purse_21 : decode M_Mod_purse.2.1 21 = .ok (.bipush (-2), 2) := by decide +kernel
theorem d_Mod_purse_23 : decode M_Mod_purse.2.1 23 = .ok (.ireturn, 1) := by decide +kernel
theorem d_Mod_purse_8 : decode M_Mod_purse.2.1 8 = .ok (.iconst (-1), 1) := by decide +kernel
theorem d_Mod_purse_9 : decode M_Mod_purse.2.1 9 = .ok (.ireturn, 1) := by decide +kernel
def M_Mod_row : XM := (⟨"HandshakeBindsModel", "row", "(III)I"⟩, prog_11_method_13_code, 5, (some .int))
theorem d_Mod_row_0 : decode M_Mod_row.2.1 0 = .ok (.aload_n 0, 1) := by decide +kernel
theorem d_Mod_row_1 : decode M_Mod_row.2.1 1 = .ok (.iload_n 1, 1) := by decide +kernel
theorem d_Mod_row_2 : decode M_Mod_row.2.1 2 = .ok (.invokevirtual 118, 3) := by decide +kernel
theorem d_Mod_row_5 : decode M_Mod_row.2.1 5 = .ok (.ifCond .eq 12, 3) := by decide +kernel
theorem d_Mod_row_17 : decode M_Mod_row.2.1 17 = .ok (.iconst (-1), 1) := by decide +kernel
theorem d_Mod_row_18 : decode M_Mod_row.2.1 18 = .ok (.ireturn, 1) := by decide +kernel
theorem d_Mod_row_8 : decode M_Mod_row.2.1 8 = .ok (.iload_n 2, 1) := by decide +kernel
theorem d_Mod_row_9 : decode M_Mod_row.2.1 9 = .ok (.iconst 0, 1) := by decide +kernel
theorem d_Mod_row_10 : decode M_Mod_row.2.1 10 = .ok (.iconst 3, 1) := by decide +kernel
theorem d_Mod_row_11 : decode M_Mod_row.2.1 11 = .ok (.invokestatic 114, 3) := by decide +kernel
theorem d_Mod_row_14 : decode M_Mod_row.2.1 14 = .ok (.ifCond .ne 5, 3) := by decide +kernel
theorem d_Mod_row_19 : decode M_Mod_row.2.1 19 = .ok (.iload_n 3, 1) := by decide +kernel
theorem d_Mod_row_20 : decode M_Mod_row.2.1 20 = .ok (.iconst 0, 1) := by decide +kernel
theorem d_Mod_row_21 : decode M_Mod_row.2.1 21 = .ok (.bipush 9, 2) := by decide +kernel
theorem d_Mod_row_23 : decode M_Mod_row.2.1 23 = .ok (.invokestatic 114, 3) := by decide +kernel
theorem d_Mod_row_26 : decode M_Mod_row.2.1 26 = .ok (.ifCond .ne 6, 3) := by decide +kernel
theorem d_Mod_row_32 : decode M_Mod_row.2.1 32 = .ok (.aload_n 0, 1) := by decide +kernel
theorem d_Mod_row_33 : decode M_Mod_row.2.1 33 = .ok (.getfield 9, 3) := by decide +kernel
theorem d_Mod_row_36 : decode M_Mod_row.2.1 36 = .ok (.iload_n 1, 1) := by decide +kernel
theorem d_Mod_row_37 : decode M_Mod_row.2.1 37 = .ok (.iaload, 1) := by decide +kernel
theorem d_Mod_row_38 : decode M_Mod_row.2.1 38 = .ok (.bipush 6, 2) := by decide +kernel
theorem d_Mod_row_40 : decode M_Mod_row.2.1 40 = .ok (.if_icmp .eq 6, 3) := by decide +kernel
theorem d_Mod_row_46 : decode M_Mod_row.2.1 46 = .ok (.aload_n 0, 1) := by decide +kernel
theorem d_Mod_row_47 : decode M_Mod_row.2.1 47 = .ok (.getfield 21, 3) := by decide +kernel
theorem d_Mod_row_50 : decode M_Mod_row.2.1 50 = .ok (.iconst 4, 1) := by decide +kernel
theorem d_Mod_row_51 : decode M_Mod_row.2.1 51 = .ok (.iload_n 1, 1) := by decide +kernel
theorem d_Mod_row_52 : decode M_Mod_row.2.1 52 = .ok (.imul, 1) := by decide +kernel
theorem d_Mod_row_53 : decode M_Mod_row.2.1 53 = .ok (.iload_n 2, 1) := by decide +kernel
theorem d_Mod_row_54 : decode M_Mod_row.2.1 54 = .ok (.iadd, 1) := by decide +kernel
theorem d_Mod_row_55 : decode M_Mod_row.2.1 55 = .ok (.iaload, 1) := by decide +kernel
theorem d_Mod_row_56 : decode M_Mod_row.2.1 56 = .ok (.istore 4, 2) := by decide +kernel
theorem d_Mod_row_58 : decode M_Mod_row.2.1 58 = .ok (.aload_n 0, 1) := by decide +kernel
theorem d_Mod_row_59 : decode M_Mod_row.2.1 59 = .ok (.getfield 21, 3) := by decide +kernel
theorem d_Mod_row_62 : decode M_Mod_row.2.1 62 = .ok (.iconst 4, 1) := by decide +kernel
theorem d_Mod_row_63 : decode M_Mod_row.2.1 63 = .ok (.iload_n 1, 1) := by decide +kernel
theorem d_Mod_row_64 : decode M_Mod_row.2.1 64 = .ok (.imul, 1) := by decide +kernel
theorem d_Mod_row_65 : decode M_Mod_row.2.1 65 = .ok (.iload_n 2, 1) := by decide +kernel
theorem d_Mod_row_66 : decode M_Mod_row.2.1 66 = .ok (.iadd, 1) := by decide +kernel
theorem d_Mod_row_67 : decode M_Mod_row.2.1 67 = .ok (.iload_n 3, 1) := by decide +kernel
theorem d_Mod_row_68 : decode M_Mod_row.2.1 68 = .ok (.iastore, 1) := by decide +kernel
theorem d_Mod_row_69 : decode M_Mod_row.2.1 69 = .ok (.iload 4, 2) := by decide +kernel
theorem d_Mod_row_71 : decode M_Mod_row.2.1 71 = .ok (.ireturn, 1) := by decide +kernel
theorem d_Mod_row_43 : decode M_Mod_row.2.1 43 = .ok (.bipush (-3), 2) := by decide +kernel
theorem d_Mod_row_45 : decode M_Mod_row.2.1 45 = .ok (.ireturn, 1) := by decide +kernel
theorem d_Mod_row_29 : decode M_Mod_row.2.1 29 = .ok (.bipush (-2), 2) := by decide +kernel
theorem d_Mod_row_31 : decode M_Mod_row.2.1 31 = .ok (.ireturn, 1) := by decide +kernel
def M_Mod_feed : XM := (⟨"HandshakeBindsModel", "feed", "(I)I"⟩, prog_11_method_14_code, 2, (some .int))
theorem d_Mod_feed_0 : decode M_Mod_feed.2.1 0 = .ok (.iload_n 1, 1) := by decide +kernel
theorem d_Mod_feed_1 : decode M_Mod_feed.2.1 1 = .ok (.iconst 0, 1) := by decide +kernel
theorem d_Mod_feed_2 : decode M_Mod_feed.2.1 2 = .ok (.bipush 127, 2) := by decide +kernel
theorem d_Mod_feed_4 : decode M_Mod_feed.2.1 4 = .ok (.invokestatic 114, 3) := by decide +kernel
theorem d_Mod_feed_7 : decode M_Mod_feed.2.1 7 = .ok (.ifCond .ne 6, 3) := by decide +kernel
theorem d_Mod_feed_13 : decode M_Mod_feed.2.1 13 = .ok (.aload_n 0, 1) := by decide +kernel
theorem d_Mod_feed_14 : decode M_Mod_feed.2.1 14 = .ok (.getfield 144, 3) := by decide +kernel
theorem gf_Mod_144 : GF "HandshakeBindsModel" 144 9 7 := ⟨_, _, _, rfl, by decide, i_Mod, inTB 857 (by decide +kernel) rfl⟩
theorem d_Mod_feed_17 : decode M_Mod_feed.2.1 17 = .ok (.bipush 100, 2) := by decide +kernel
theorem d_Mod_feed_19 : decode M_Mod_feed.2.1 19 = .ok (.if_icmp .ne 6, 3) := by decide +kernel
theorem d_Mod_feed_25 : decode M_Mod_feed.2.1 25 = .ok (.aload_n 0, 1) := by decide +kernel
theorem d_Mod_feed_26 : decode M_Mod_feed.2.1 26 = .ok (.getfield 27, 3) := by decide +kernel
theorem gf_Mod_27 : GF "HandshakeBindsModel" 27 9 8 := ⟨_, _, _, rfl, by decide, i_Mod, inTB 858 (by decide +kernel) rfl⟩
theorem d_Mod_feed_29 : decode M_Mod_feed.2.1 29 = .ok (.aload_n 0, 1) := by decide +kernel
theorem d_Mod_feed_30 : decode M_Mod_feed.2.1 30 = .ok (.dup, 1) := by decide +kernel
theorem d_Mod_feed_31 : decode M_Mod_feed.2.1 31 = .ok (.getfield 144, 3) := by decide +kernel
theorem d_Mod_feed_34 : decode M_Mod_feed.2.1 34 = .ok (.dup_x1, 1) := by decide +kernel
theorem d_Mod_feed_35 : decode M_Mod_feed.2.1 35 = .ok (.iconst 1, 1) := by decide +kernel
theorem d_Mod_feed_36 : decode M_Mod_feed.2.1 36 = .ok (.iadd, 1) := by decide +kernel
theorem d_Mod_feed_37 : decode M_Mod_feed.2.1 37 = .ok (.putfield 144, 3) := by decide +kernel
theorem pf_Mod_144 : PF "HandshakeBindsModel" 144 9 7 (.int) false := ⟨_, _, _, t_Mod, rfl, by decide, i_Mod, t_Mod_ok, n_Mod, inTB 857 (by decide +kernel) rfl, rfl, t_Mod_ok 7 (by decide), fun _ => rfl⟩
theorem d_Mod_feed_40 : decode M_Mod_feed.2.1 40 = .ok (.iload_n 1, 1) := by decide +kernel
theorem d_Mod_feed_41 : decode M_Mod_feed.2.1 41 = .ok (.iastore, 1) := by decide +kernel
theorem d_Mod_feed_42 : decode M_Mod_feed.2.1 42 = .ok (.aload_n 0, 1) := by decide +kernel
theorem d_Mod_feed_43 : decode M_Mod_feed.2.1 43 = .ok (.getfield 144, 3) := by decide +kernel
theorem d_Mod_feed_46 : decode M_Mod_feed.2.1 46 = .ok (.ireturn, 1) := by decide +kernel
theorem d_Mod_feed_22 : decode M_Mod_feed.2.1 22 = .ok (.bipush (-4), 2) := by decide +kernel
theorem d_Mod_feed_24 : decode M_Mod_feed.2.1 24 = .ok (.ireturn, 1) := by decide +kernel
theorem d_Mod_feed_10 : decode M_Mod_feed.2.1 10 = .ok (.bipush (-2), 2) := by decide +kernel
theorem d_Mod_feed_12 : decode M_Mod_feed.2.1 12 = .ok (.ireturn, 1) := by decide +kernel
def M_Mod_pass : XM := (⟨"HandshakeBindsModel", "pass", "(I)I"⟩, prog_11_method_48_code, 2, (some .int))
theorem d_Mod_pass_0 : decode M_Mod_pass.2.1 0 = .ok (.iload_n 1, 1) := by decide +kernel
theorem d_Mod_pass_1 : decode M_Mod_pass.2.1 1 = .ok (.iconst 0, 1) := by decide +kernel
theorem d_Mod_pass_2 : decode M_Mod_pass.2.1 2 = .ok (.bipush 60, 2) := by decide +kernel
theorem d_Mod_pass_4 : decode M_Mod_pass.2.1 4 = .ok (.invokestatic 114, 3) := by decide +kernel
theorem d_Mod_pass_7 : decode M_Mod_pass.2.1 7 = .ok (.ifCond .ne 6, 3) := by decide +kernel
theorem d_Mod_pass_13 : decode M_Mod_pass.2.1 13 = .ok (.aload_n 0, 1) := by decide +kernel
theorem d_Mod_pass_14 : decode M_Mod_pass.2.1 14 = .ok (.getfield 240, 3) := by decide +kernel
theorem d_Mod_pass_17 : decode M_Mod_pass.2.1 17 = .ok (.iload_n 1, 1) := by decide +kernel
theorem d_Mod_pass_18 : decode M_Mod_pass.2.1 18 = .ok (.iadd, 1) := by decide +kernel
theorem d_Mod_pass_19 : decode M_Mod_pass.2.1 19 = .ok (.sipush 9999, 3) := by decide +kernel
theorem d_Mod_pass_22 : decode M_Mod_pass.2.1 22 = .ok (.if_icmp .le 6, 3) := by decide +kernel
theorem d_Mod_pass_28 : decode M_Mod_pass.2.1 28 = .ok (.aload_n 0, 1) := by decide +kernel
theorem d_Mod_pass_29 : decode M_Mod_pass.2.1 29 = .ok (.dup, 1) := by decide +kernel
theorem d_Mod_pass_30 : decode M_Mod_pass.2.1 30 = .ok (.getfield 240, 3) := by decide +kernel
theorem d_Mod_pass_33 : decode M_Mod_pass.2.1 33 = .ok (.iload_n 1, 1) := by decide +kernel
theorem d_Mod_pass_34 : decode M_Mod_pass.2.1 34 = .ok (.iadd, 1) := by decide +kernel
theorem d_Mod_pass_35 : decode M_Mod_pass.2.1 35 = .ok (.putfield 240, 3) := by decide +kernel
theorem d_Mod_pass_38 : decode M_Mod_pass.2.1 38 = .ok (.aload_n 0, 1) := by decide +kernel
theorem d_Mod_pass_39 : decode M_Mod_pass.2.1 39 = .ok (.getfield 240, 3) := by decide +kernel
theorem d_Mod_pass_42 : decode M_Mod_pass.2.1 42 = .ok (.ireturn, 1) := by decide +kernel
theorem d_Mod_pass_25 : decode M_Mod_pass.2.1 25 = .ok (.bipush (-3), 2) := by decide +kernel
theorem d_Mod_pass_27 : decode M_Mod_pass.2.1 27 = .ok (.ireturn, 1) := by decide +kernel
theorem d_Mod_pass_10 : decode M_Mod_pass.2.1 10 = .ok (.bipush (-2), 2) := by decide +kernel
theorem d_Mod_pass_12 : decode M_Mod_pass.2.1 12 = .ok (.ireturn, 1) := by decide +kernel
def M_Mod_trader : XM := (⟨"HandshakeBindsModel", "trader", "(II)I"⟩, prog_11_method_6_code, 5, (some .int))
theorem d_Mod_trader_0 : decode M_Mod_trader.2.1 0 = .ok (.iload_n 1, 1) := by decide +kernel
theorem d_Mod_trader_1 : decode M_Mod_trader.2.1 1 = .ok (.iconst 0, 1) := by decide +kernel
theorem d_Mod_trader_2 : decode M_Mod_trader.2.1 2 = .ok (.bipush 6, 2) := by decide +kernel
theorem d_Mod_trader_4 : decode M_Mod_trader.2.1 4 = .ok (.invokestatic 114, 3) := by decide +kernel
theorem d_Mod_trader_7 : decode M_Mod_trader.2.1 7 = .ok (.ifCond .ne 5, 3) := by decide +kernel
theorem d_Mod_trader_12 : decode M_Mod_trader.2.1 12 = .ok (.iload_n 2, 1) := by decide +kernel
theorem d_Mod_trader_13 : decode M_Mod_trader.2.1 13 = .ok (.iconst 0, 1) := by decide +kernel
theorem d_Mod_trader_14 : decode M_Mod_trader.2.1 14 = .ok (.bipush 9, 2) := by decide +kernel
theorem d_Mod_trader_16 : decode M_Mod_trader.2.1 16 = .ok (.invokestatic 114, 3) := by decide +kernel
theorem d_Mod_trader_19 : decode M_Mod_trader.2.1 19 = .ok (.ifCond .ne 6, 3) := by decide +kernel
theorem d_Mod_trader_25 : decode M_Mod_trader.2.1 25 = .ok (.aload_n 0, 1) := by decide +kernel
theorem d_Mod_trader_26 : decode M_Mod_trader.2.1 26 = .ok (.getfield 111, 3) := by decide +kernel
theorem d_Mod_trader_29 : decode M_Mod_trader.2.1 29 = .ok (.bipush 6, 2) := by decide +kernel
theorem d_Mod_trader_31 : decode M_Mod_trader.2.1 31 = .ok (.if_icmp .ne 6, 3) := by decide +kernel
theorem d_Mod_trader_37 : decode M_Mod_trader.2.1 37 = .ok (.aload_n 0, 1) := by decide +kernel
theorem d_Mod_trader_38 : decode M_Mod_trader.2.1 38 = .ok (.getfield 111, 3) := by decide +kernel
theorem d_Mod_trader_41 : decode M_Mod_trader.2.1 41 = .ok (.istore_n 3, 1) := by decide +kernel
theorem d_Mod_trader_42 : decode M_Mod_trader.2.1 42 = .ok (.aload_n 0, 1) := by decide +kernel
theorem d_Mod_trader_43 : decode M_Mod_trader.2.1 43 = .ok (.getfield 9, 3) := by decide +kernel
theorem d_Mod_trader_46 : decode M_Mod_trader.2.1 46 = .ok (.iload_n 3, 1) := by decide +kernel
theorem d_Mod_trader_47 : decode M_Mod_trader.2.1 47 = .ok (.iload_n 1, 1) := by decide +kernel
theorem d_Mod_trader_48 : decode M_Mod_trader.2.1 48 = .ok (.iastore, 1) := by decide +kernel
theorem d_Mod_trader_49 : decode M_Mod_trader.2.1 49 = .ok (.aload_n 0, 1) := by decide +kernel
theorem d_Mod_trader_50 : decode M_Mod_trader.2.1 50 = .ok (.getfield 15, 3) := by decide +kernel
theorem d_Mod_trader_53 : decode M_Mod_trader.2.1 53 = .ok (.iload_n 3, 1) := by decide +kernel
theorem d_Mod_trader_54 : decode M_Mod_trader.2.1 54 = .ok (.iload_n 2, 1) := by decide +kernel
theorem d_Mod_trader_55 : decode M_Mod_trader.2.1 55 = .ok (.iastore, 1) := by decide +kernel
theorem d_Mod_trader_56 : decode M_Mod_trader.2.1 56 = .ok (.aload_n 0, 1) := by decide +kernel
theorem d_Mod_trader_57 : decode M_Mod_trader.2.1 57 = .ok (.getfield 18, 3) := by decide +kernel
theorem d_Mod_trader_60 : decode M_Mod_trader.2.1 60 = .ok (.iload_n 3, 1) := by decide +kernel
theorem d_Mod_trader_61 : decode M_Mod_trader.2.1 61 = .ok (.bipush 100, 2) := by decide +kernel
theorem d_Mod_trader_63 : decode M_Mod_trader.2.1 63 = .ok (.iastore, 1) := by decide +kernel
theorem d_Mod_trader_64 : decode M_Mod_trader.2.1 64 = .ok (.iconst 0, 1) := by decide +kernel
theorem d_Mod_trader_65 : decode M_Mod_trader.2.1 65 = .ok (.istore 4, 2) := by decide +kernel
theorem d_Mod_trader_67 : decode M_Mod_trader.2.1 67 = .ok (.iload 4, 2) := by decide +kernel
theorem d_Mod_trader_69 : decode M_Mod_trader.2.1 69 = .ok (.iconst 4, 1) := by decide +kernel
theorem d_Mod_trader_70 : decode M_Mod_trader.2.1 70 = .ok (.if_icmp .ge 21, 3) := by decide +kernel
theorem d_Mod_trader_91 : decode M_Mod_trader.2.1 91 = .ok (.iconst 0, 1) := by decide +kernel
theorem d_Mod_trader_92 : decode M_Mod_trader.2.1 92 = .ok (.istore 4, 2) := by decide +kernel
theorem d_Mod_trader_94 : decode M_Mod_trader.2.1 94 = .ok (.iload 4, 2) := by decide +kernel
theorem d_Mod_trader_96 : decode M_Mod_trader.2.1 96 = .ok (.bipush 6, 2) := by decide +kernel
theorem d_Mod_trader_98 : decode M_Mod_trader.2.1 98 = .ok (.if_icmp .ge 35, 3) := by decide +kernel
theorem d_Mod_trader_133 : decode M_Mod_trader.2.1 133 = .ok (.aload_n 0, 1) := by decide +kernel
theorem d_Mod_trader_134 : decode M_Mod_trader.2.1 134 = .ok (.dup, 1) := by decide +kernel
theorem d_Mod_trader_135 : decode M_Mod_trader.2.1 135 = .ok (.getfield 111, 3) := by decide +kernel
theorem d_Mod_trader_138 : decode M_Mod_trader.2.1 138 = .ok (.dup_x1, 1) := by decide +kernel
theorem d_Mod_trader_139 : decode M_Mod_trader.2.1 139 = .ok (.iconst 1, 1) := by decide +kernel
theorem d_Mod_trader_140 : decode M_Mod_trader.2.1 140 = .ok (.iadd, 1) := by decide +kernel
theorem d_Mod_trader_141 : decode M_Mod_trader.2.1 141 = .ok (.putfield 111, 3) := by decide +kernel
theorem d_Mod_trader_144 : decode M_Mod_trader.2.1 144 = .ok (.ireturn, 1) := by decide +kernel
theorem d_Mod_trader_101 : decode M_Mod_trader.2.1 101 = .ok (.aload_n 0, 1) := by decide +kernel
theorem d_Mod_trader_102 : decode M_Mod_trader.2.1 102 = .ok (.getfield 24, 3) := by decide +kernel
theorem d_Mod_trader_105 : decode M_Mod_trader.2.1 105 = .ok (.bipush 6, 2) := by decide +kernel
theorem d_Mod_trader_107 : decode M_Mod_trader.2.1 107 = .ok (.iload_n 3, 1) := by decide +kernel
theorem d_Mod_trader_108 : decode M_Mod_trader.2.1 108 = .ok (.imul, 1) := by decide +kernel
theorem d_Mod_trader_109 : decode M_Mod_trader.2.1 109 = .ok (.iload 4, 2) := by decide +kernel
theorem d_Mod_trader_111 : decode M_Mod_trader.2.1 111 = .ok (.iadd, 1) := by decide +kernel
theorem d_Mod_trader_112 : decode M_Mod_trader.2.1 112 = .ok (.iconst 0, 1) := by decide +kernel
theorem d_Mod_trader_113 : decode M_Mod_trader.2.1 113 = .ok (.iastore, 1) := by decide +kernel
theorem d_Mod_trader_114 : decode M_Mod_trader.2.1 114 = .ok (.aload_n 0, 1) := by decide +kernel
theorem d_Mod_trader_115 : decode M_Mod_trader.2.1 115 = .ok (.getfield 24, 3) := by decide +kernel
theorem d_Mod_trader_118 : decode M_Mod_trader.2.1 118 = .ok (.bipush 6, 2) := by decide +kernel
theorem d_Mod_trader_120 : decode M_Mod_trader.2.1 120 = .ok (.iload 4, 2) := by decide +kernel
theorem d_Mod_trader_122 : decode M_Mod_trader.2.1 122 = .ok (.imul, 1) := by decide +kernel
theorem d_Mod_trader_123 : decode M_Mod_trader.2.1 123 = .ok (.iload_n 3, 1) := by decide +kernel
theorem d_Mod_trader_124 : decode M_Mod_trader.2.1 124 = .ok (.iadd, 1) := by decide +kernel
theorem d_Mod_trader_125 : decode M_Mod_trader.2.1 125 = .ok (.iconst 0, 1) := by decide +kernel
theorem d_Mod_trader_126 : decode M_Mod_trader.2.1 126 = .ok (.iastore, 1) := by decide +kernel
theorem d_Mod_trader_127 : decode M_Mod_trader.2.1 127 = .ok (.iinc 4 1, 3) := by decide +kernel
theorem d_Mod_trader_130 : decode M_Mod_trader.2.1 130 = .ok (.goto (-36), 3) := by decide +kernel
theorem d_Mod_trader_73 : decode M_Mod_trader.2.1 73 = .ok (.aload_n 0, 1) := by decide +kernel
theorem d_Mod_trader_74 : decode M_Mod_trader.2.1 74 = .ok (.getfield 21, 3) := by decide +kernel
theorem d_Mod_trader_77 : decode M_Mod_trader.2.1 77 = .ok (.iconst 4, 1) := by decide +kernel
theorem d_Mod_trader_78 : decode M_Mod_trader.2.1 78 = .ok (.iload_n 3, 1) := by decide +kernel
theorem d_Mod_trader_79 : decode M_Mod_trader.2.1 79 = .ok (.imul, 1) := by decide +kernel
theorem d_Mod_trader_80 : decode M_Mod_trader.2.1 80 = .ok (.iload 4, 2) := by decide +kernel
theorem d_Mod_trader_82 : decode M_Mod_trader.2.1 82 = .ok (.iadd, 1) := by decide +kernel
theorem d_Mod_trader_83 : decode M_Mod_trader.2.1 83 = .ok (.iconst 0, 1) := by decide +kernel
theorem d_Mod_trader_84 : decode M_Mod_trader.2.1 84 = .ok (.iastore, 1) := by decide +kernel
theorem d_Mod_trader_85 : decode M_Mod_trader.2.1 85 = .ok (.iinc 4 1, 3) := by decide +kernel
theorem d_Mod_trader_88 : decode M_Mod_trader.2.1 88 = .ok (.goto (-21), 3) := by decide +kernel
theorem d_Mod_trader_34 : decode M_Mod_trader.2.1 34 = .ok (.bipush (-4), 2) := by decide +kernel
theorem d_Mod_trader_36 : decode M_Mod_trader.2.1 36 = .ok (.ireturn, 1) := by decide +kernel
theorem d_Mod_trader_22 : decode M_Mod_trader.2.1 22 = .ok (.bipush (-2), 2) := by decide +kernel
theorem d_Mod_trader_24 : decode M_Mod_trader.2.1 24 = .ok (.ireturn, 1) := by decide +kernel
theorem d_Mod_trader_10 : decode M_Mod_trader.2.1 10 = .ok (.iconst (-1), 1) := by decide +kernel
theorem d_Mod_trader_11 : decode M_Mod_trader.2.1 11 = .ok (.ireturn, 1) := by decide +kernel
def M_Mod_see : XM := (⟨"HandshakeBindsModel", "see", "(IIIII)I"⟩, prog_11_method_49_code, 6, (some .int))
theorem d_Mod_see_0 : decode M_Mod_see.2.1 0 = .ok (.iload_n 1, 1) := by decide +kernel
theorem d_Mod_see_1 : decode M_Mod_see.2.1 1 = .ok (.iconst (-1), 1) := by decide +kernel
theorem d_Mod_see_2 : decode M_Mod_see.2.1 2 = .ok (.if_icmp .ne 10, 3) := by decide +kernel
theorem d_Mod_see_12 : decode M_Mod_see.2.1 12 = .ok (.aload_n 0, 1) := by decide +kernel
theorem d_Mod_see_13 : decode M_Mod_see.2.1 13 = .ok (.iload_n 1, 1) := by decide +kernel
theorem d_Mod_see_14 : decode M_Mod_see.2.1 14 = .ok (.iload_n 2, 1) := by decide +kernel
theorem d_Mod_see_15 : decode M_Mod_see.2.1 15 = .ok (.invokevirtual 140, 3) := by decide +kernel
theorem d_Mod_see_18 : decode M_Mod_see.2.1 18 = .ok (.ifCond .ne 5, 3) := by decide +kernel
theorem d_Mod_see_23 : decode M_Mod_see.2.1 23 = .ok (.iload_n 1, 1) := by decide +kernel
theorem d_Mod_see_24 : decode M_Mod_see.2.1 24 = .ok (.iload_n 2, 1) := by decide +kernel
theorem d_Mod_see_25 : decode M_Mod_see.2.1 25 = .ok (.if_icmp .eq 33, 3) := by decide +kernel
theorem d_Mod_see_58 : decode M_Mod_see.2.1 58 = .ok (.bipush (-2), 2) := by decide +kernel
theorem d_Mod_see_60 : decode M_Mod_see.2.1 60 = .ok (.ireturn, 1) := by decide +kernel
theorem d_Mod_see_28 : decode M_Mod_see.2.1 28 = .ok (.iload_n 3, 1) := by decide +kernel
theorem d_Mod_see_29 : decode M_Mod_see.2.1 29 = .ok (.invokestatic 237, 3) := by decide +kernel
theorem ln_Mod_237 : Cond.methodLink "HandshakeBindsModel" 237 M_Mod_isSqueeze.1 ∈ TB := inTB 1160 (by decide +kernel) rfl
theorem lk_Mod_isSqueeze : LSt M_Mod_isSqueeze 1 := ⟨⟨inTB 72 (by decide +kernel) rfl, inTB 1162 (by decide +kernel) rfl, ⟨by decide, by decide, by decide +kernel⟩, by decide⟩, inTB 1161 (by decide +kernel) rfl⟩
theorem d_Mod_see_32 : decode M_Mod_see.2.1 32 = .ok (.ifCond .eq 26, 3) := by decide +kernel
theorem d_Mod_see_35 : decode M_Mod_see.2.1 35 = .ok (.iload 4, 2) := by decide +kernel
theorem d_Mod_see_37 : decode M_Mod_see.2.1 37 = .ok (.iconst 0, 1) := by decide +kernel
theorem d_Mod_see_38 : decode M_Mod_see.2.1 38 = .ok (.bipush 20, 2) := by decide +kernel
theorem d_Mod_see_40 : decode M_Mod_see.2.1 40 = .ok (.invokestatic 114, 3) := by decide +kernel
theorem d_Mod_see_43 : decode M_Mod_see.2.1 43 = .ok (.ifCond .eq 15, 3) := by decide +kernel
theorem d_Mod_see_46 : decode M_Mod_see.2.1 46 = .ok (.iload 5, 2) := by decide +kernel
theorem d_Mod_see_48 : decode M_Mod_see.2.1 48 = .ok (.iconst 0, 1) := by decide +kernel
theorem d_Mod_see_49 : decode M_Mod_see.2.1 49 = .ok (.sipush 999, 3) := by decide +kernel
theorem d_Mod_see_52 : decode M_Mod_see.2.1 52 = .ok (.invokestatic 114, 3) := by decide +kernel
theorem d_Mod_see_55 : decode M_Mod_see.2.1 55 = .ok (.ifCond .ne 6, 3) := by decide +kernel
theorem d_Mod_see_61 : decode M_Mod_see.2.1 61 = .ok (.aload_n 0, 1) := by decide +kernel
theorem d_Mod_see_62 : decode M_Mod_see.2.1 62 = .ok (.getfield 297, 3) := by decide +kernel
theorem d_Mod_see_65 : decode M_Mod_see.2.1 65 = .ok (.iconst 5, 1) := by decide +kernel
theorem d_Mod_see_66 : decode M_Mod_see.2.1 66 = .ok (.if_icmp .ne 6, 3) := by decide +kernel
theorem d_Mod_see_72 : decode M_Mod_see.2.1 72 = .ok (.aload_n 0, 1) := by decide +kernel
theorem d_Mod_see_73 : decode M_Mod_see.2.1 73 = .ok (.getfield 52, 3) := by decide +kernel
theorem d_Mod_see_76 : decode M_Mod_see.2.1 76 = .ok (.aload_n 0, 1) := by decide +kernel
theorem d_Mod_see_77 : decode M_Mod_see.2.1 77 = .ok (.getfield 297, 3) := by decide +kernel
theorem d_Mod_see_80 : decode M_Mod_see.2.1 80 = .ok (.iload_n 1, 1) := by decide +kernel
theorem d_Mod_see_81 : decode M_Mod_see.2.1 81 = .ok (.iastore, 1) := by decide +kernel
theorem d_Mod_see_82 : decode M_Mod_see.2.1 82 = .ok (.aload_n 0, 1) := by decide +kernel
theorem d_Mod_see_83 : decode M_Mod_see.2.1 83 = .ok (.getfield 55, 3) := by decide +kernel
theorem d_Mod_see_86 : decode M_Mod_see.2.1 86 = .ok (.aload_n 0, 1) := by decide +kernel
theorem d_Mod_see_87 : decode M_Mod_see.2.1 87 = .ok (.getfield 297, 3) := by decide +kernel
theorem d_Mod_see_90 : decode M_Mod_see.2.1 90 = .ok (.iload_n 2, 1) := by decide +kernel
theorem d_Mod_see_91 : decode M_Mod_see.2.1 91 = .ok (.iastore, 1) := by decide +kernel
theorem d_Mod_see_92 : decode M_Mod_see.2.1 92 = .ok (.aload_n 0, 1) := by decide +kernel
theorem d_Mod_see_93 : decode M_Mod_see.2.1 93 = .ok (.getfield 58, 3) := by decide +kernel
theorem d_Mod_see_96 : decode M_Mod_see.2.1 96 = .ok (.aload_n 0, 1) := by decide +kernel
theorem d_Mod_see_97 : decode M_Mod_see.2.1 97 = .ok (.getfield 297, 3) := by decide +kernel
theorem d_Mod_see_100 : decode M_Mod_see.2.1 100 = .ok (.iload_n 3, 1) := by decide +kernel
theorem d_Mod_see_101 : decode M_Mod_see.2.1 101 = .ok (.iastore, 1) := by decide +kernel
theorem d_Mod_see_102 : decode M_Mod_see.2.1 102 = .ok (.aload_n 0, 1) := by decide +kernel
theorem d_Mod_see_103 : decode M_Mod_see.2.1 103 = .ok (.getfield 61, 3) := by decide +kernel
theorem d_Mod_see_106 : decode M_Mod_see.2.1 106 = .ok (.aload_n 0, 1) := by decide +kernel
theorem d_Mod_see_107 : decode M_Mod_see.2.1 107 = .ok (.getfield 297, 3) := by decide +kernel
theorem d_Mod_see_110 : decode M_Mod_see.2.1 110 = .ok (.iload 4, 2) := by decide +kernel
theorem d_Mod_see_112 : decode M_Mod_see.2.1 112 = .ok (.iastore, 1) := by decide +kernel
theorem d_Mod_see_113 : decode M_Mod_see.2.1 113 = .ok (.aload_n 0, 1) := by decide +kernel
theorem d_Mod_see_114 : decode M_Mod_see.2.1 114 = .ok (.getfield 64, 3) := by decide +kernel
theorem d_Mod_see_117 : decode M_Mod_see.2.1 117 = .ok (.aload_n 0, 1) := by decide +kernel
theorem d_Mod_see_118 : decode M_Mod_see.2.1 118 = .ok (.dup, 1) := by decide +kernel
theorem d_Mod_see_119 : decode M_Mod_see.2.1 119 = .ok (.getfield 297, 3) := by decide +kernel
theorem d_Mod_see_122 : decode M_Mod_see.2.1 122 = .ok (.dup_x1, 1) := by decide +kernel
theorem d_Mod_see_123 : decode M_Mod_see.2.1 123 = .ok (.iconst 1, 1) := by decide +kernel
theorem d_Mod_see_124 : decode M_Mod_see.2.1 124 = .ok (.iadd, 1) := by decide +kernel
theorem d_Mod_see_125 : decode M_Mod_see.2.1 125 = .ok (.putfield 297, 3) := by decide +kernel
theorem d_Mod_see_128 : decode M_Mod_see.2.1 128 = .ok (.iload 5, 2) := by decide +kernel
theorem d_Mod_see_130 : decode M_Mod_see.2.1 130 = .ok (.iastore, 1) := by decide +kernel
theorem d_Mod_see_131 : decode M_Mod_see.2.1 131 = .ok (.aload_n 0, 1) := by decide +kernel
theorem d_Mod_see_132 : decode M_Mod_see.2.1 132 = .ok (.getfield 297, 3) := by decide +kernel
theorem d_Mod_see_135 : decode M_Mod_see.2.1 135 = .ok (.ireturn, 1) := by decide +kernel
theorem d_Mod_see_69 : decode M_Mod_see.2.1 69 = .ok (.bipush (-4), 2) := by decide +kernel
theorem d_Mod_see_71 : decode M_Mod_see.2.1 71 = .ok (.ireturn, 1) := by decide +kernel
theorem d_Mod_see_21 : decode M_Mod_see.2.1 21 = .ok (.iconst (-1), 1) := by decide +kernel
theorem d_Mod_see_22 : decode M_Mod_see.2.1 22 = .ok (.ireturn, 1) := by decide +kernel
theorem d_Mod_see_5 : decode M_Mod_see.2.1 5 = .ok (.aload_n 0, 1) := by decide +kernel
theorem d_Mod_see_6 : decode M_Mod_see.2.1 6 = .ok (.iconst 0, 1) := by decide +kernel
theorem d_Mod_see_7 : decode M_Mod_see.2.1 7 = .ok (.putfield 297, 3) := by decide +kernel
theorem d_Mod_see_10 : decode M_Mod_see.2.1 10 = .ok (.iconst 0, 1) := by decide +kernel
theorem d_Mod_see_11 : decode M_Mod_see.2.1 11 = .ok (.ireturn, 1) := by decide +kernel
def M_Mod_book : XM := (⟨"HandshakeBindsModel", "book", "(III)I"⟩, prog_11_method_60_code, 4, (some .int))
theorem d_Mod_book_0 : decode M_Mod_book.2.1 0 = .ok (.iload_n 1, 1) := by decide +kernel
theorem d_Mod_book_1 : decode M_Mod_book.2.1 1 = .ok (.iconst (-1), 1) := by decide +kernel
theorem d_Mod_book_2 : decode M_Mod_book.2.1 2 = .ok (.if_icmp .ne 10, 3) := by decide +kernel
theorem d_Mod_book_12 : decode M_Mod_book.2.1 12 = .ok (.aload_n 0, 1) := by decide +kernel
theorem d_Mod_book_13 : decode M_Mod_book.2.1 13 = .ok (.iload_n 1, 1) := by decide +kernel
theorem d_Mod_book_14 : decode M_Mod_book.2.1 14 = .ok (.iload_n 2, 1) := by decide +kernel
theorem d_Mod_book_15 : decode M_Mod_book.2.1 15 = .ok (.invokevirtual 140, 3) := by decide +kernel
theorem d_Mod_book_18 : decode M_Mod_book.2.1 18 = .ok (.ifCond .ne 5, 3) := by decide +kernel
theorem d_Mod_book_23 : decode M_Mod_book.2.1 23 = .ok (.iload_n 1, 1) := by decide +kernel
theorem d_Mod_book_24 : decode M_Mod_book.2.1 24 = .ok (.iload_n 2, 1) := by decide +kernel
theorem d_Mod_book_25 : decode M_Mod_book.2.1 25 = .ok (.if_icmp .eq 14, 3) := by decide +kernel
theorem d_Mod_book_39 : decode M_Mod_book.2.1 39 = .ok (.bipush (-2), 2) := by decide +kernel
theorem d_Mod_book_41 : decode M_Mod_book.2.1 41 = .ok (.ireturn, 1) := by decide +kernel
theorem d_Mod_book_28 : decode M_Mod_book.2.1 28 = .ok (.iload_n 3, 1) := by decide +kernel
theorem d_Mod_book_29 : decode M_Mod_book.2.1 29 = .ok (.iconst 0, 1) := by decide +kernel
theorem d_Mod_book_30 : decode M_Mod_book.2.1 30 = .ok (.sipush 9999, 3) := by decide +kernel
theorem d_Mod_book_33 : decode M_Mod_book.2.1 33 = .ok (.invokestatic 114, 3) := by decide +kernel
theorem d_Mod_book_36 : decode M_Mod_book.2.1 36 = .ok (.ifCond .ne 6, 3) := by decide +kernel
theorem d_Mod_book_42 : decode M_Mod_book.2.1 42 = .ok (.aload_n 0, 1) := by decide +kernel
theorem d_Mod_book_43 : decode M_Mod_book.2.1 43 = .ok (.getfield 319, 3) := by decide +kernel
theorem d_Mod_book_46 : decode M_Mod_book.2.1 46 = .ok (.bipush 8, 2) := by decide +kernel
theorem d_Mod_book_48 : decode M_Mod_book.2.1 48 = .ok (.if_icmp .ne 6, 3) := by decide +kernel
theorem d_Mod_book_54 : decode M_Mod_book.2.1 54 = .ok (.aload_n 0, 1) := by decide +kernel
theorem d_Mod_book_55 : decode M_Mod_book.2.1 55 = .ok (.getfield 73, 3) := by decide +kernel
theorem d_Mod_book_58 : decode M_Mod_book.2.1 58 = .ok (.aload_n 0, 1) := by decide +kernel
theorem d_Mod_book_59 : decode M_Mod_book.2.1 59 = .ok (.getfield 319, 3) := by decide +kernel
theorem d_Mod_book_62 : decode M_Mod_book.2.1 62 = .ok (.iload_n 1, 1) := by decide +kernel
theorem d_Mod_book_63 : decode M_Mod_book.2.1 63 = .ok (.iastore, 1) := by decide +kernel
theorem d_Mod_book_64 : decode M_Mod_book.2.1 64 = .ok (.aload_n 0, 1) := by decide +kernel
theorem d_Mod_book_65 : decode M_Mod_book.2.1 65 = .ok (.getfield 76, 3) := by decide +kernel
theorem d_Mod_book_68 : decode M_Mod_book.2.1 68 = .ok (.aload_n 0, 1) := by decide +kernel
theorem d_Mod_book_69 : decode M_Mod_book.2.1 69 = .ok (.getfield 319, 3) := by decide +kernel
theorem d_Mod_book_72 : decode M_Mod_book.2.1 72 = .ok (.iload_n 2, 1) := by decide +kernel
theorem d_Mod_book_73 : decode M_Mod_book.2.1 73 = .ok (.iastore, 1) := by decide +kernel
theorem d_Mod_book_74 : decode M_Mod_book.2.1 74 = .ok (.aload_n 0, 1) := by decide +kernel
theorem d_Mod_book_75 : decode M_Mod_book.2.1 75 = .ok (.getfield 79, 3) := by decide +kernel
theorem d_Mod_book_78 : decode M_Mod_book.2.1 78 = .ok (.aload_n 0, 1) := by decide +kernel
theorem d_Mod_book_79 : decode M_Mod_book.2.1 79 = .ok (.dup, 1) := by decide +kernel
theorem d_Mod_book_80 : decode M_Mod_book.2.1 80 = .ok (.getfield 319, 3) := by decide +kernel
theorem d_Mod_book_83 : decode M_Mod_book.2.1 83 = .ok (.dup_x1, 1) := by decide +kernel
theorem d_Mod_book_84 : decode M_Mod_book.2.1 84 = .ok (.iconst 1, 1) := by decide +kernel
theorem d_Mod_book_85 : decode M_Mod_book.2.1 85 = .ok (.iadd, 1) := by decide +kernel
theorem d_Mod_book_86 : decode M_Mod_book.2.1 86 = .ok (.putfield 319, 3) := by decide +kernel
theorem d_Mod_book_89 : decode M_Mod_book.2.1 89 = .ok (.iload_n 3, 1) := by decide +kernel
theorem d_Mod_book_90 : decode M_Mod_book.2.1 90 = .ok (.iastore, 1) := by decide +kernel
theorem d_Mod_book_91 : decode M_Mod_book.2.1 91 = .ok (.aload_n 0, 1) := by decide +kernel
theorem d_Mod_book_92 : decode M_Mod_book.2.1 92 = .ok (.getfield 319, 3) := by decide +kernel
theorem d_Mod_book_95 : decode M_Mod_book.2.1 95 = .ok (.ireturn, 1) := by decide +kernel
theorem d_Mod_book_51 : decode M_Mod_book.2.1 51 = .ok (.bipush (-4), 2) := by decide +kernel
theorem d_Mod_book_53 : decode M_Mod_book.2.1 53 = .ok (.ireturn, 1) := by decide +kernel
theorem d_Mod_book_21 : decode M_Mod_book.2.1 21 = .ok (.iconst (-1), 1) := by decide +kernel
theorem d_Mod_book_22 : decode M_Mod_book.2.1 22 = .ok (.ireturn, 1) := by decide +kernel
theorem d_Mod_book_5 : decode M_Mod_book.2.1 5 = .ok (.aload_n 0, 1) := by decide +kernel
theorem d_Mod_book_6 : decode M_Mod_book.2.1 6 = .ok (.iconst 0, 1) := by decide +kernel
theorem d_Mod_book_7 : decode M_Mod_book.2.1 7 = .ok (.putfield 319, 3) := by decide +kernel
theorem d_Mod_book_10 : decode M_Mod_book.2.1 10 = .ok (.iconst 0, 1) := by decide +kernel
theorem d_Mod_book_11 : decode M_Mod_book.2.1 11 = .ok (.ireturn, 1) := by decide +kernel
def M_Mod_plan : XM := (⟨"HandshakeBindsModel", "plan", "(II)I"⟩, prog_11_method_57_code, 3, (some .int))
theorem d_Mod_plan_0 : decode M_Mod_plan.2.1 0 = .ok (.iload_n 1, 1) := by decide +kernel
theorem d_Mod_plan_1 : decode M_Mod_plan.2.1 1 = .ok (.iconst (-1), 1) := by decide +kernel
theorem d_Mod_plan_2 : decode M_Mod_plan.2.1 2 = .ok (.if_icmp .ne 10, 3) := by decide +kernel
theorem d_Mod_plan_12 : decode M_Mod_plan.2.1 12 = .ok (.iload_n 1, 1) := by decide +kernel
theorem d_Mod_plan_13 : decode M_Mod_plan.2.1 13 = .ok (.iconst 0, 1) := by decide +kernel
theorem d_Mod_plan_14 : decode M_Mod_plan.2.1 14 = .ok (.iconst 3, 1) := by decide +kernel
theorem d_Mod_plan_15 : decode M_Mod_plan.2.1 15 = .ok (.invokestatic 114, 3) := by decide +kernel
theorem d_Mod_plan_18 : decode M_Mod_plan.2.1 18 = .ok (.ifCond .eq 15, 3) := by decide +kernel
theorem d_Mod_plan_33 : decode M_Mod_plan.2.1 33 = .ok (.iconst (-1), 1) := by decide +kernel
theorem d_Mod_plan_34 : decode M_Mod_plan.2.1 34 = .ok (.ireturn, 1) := by decide +kernel
theorem d_Mod_plan_21 : decode M_Mod_plan.2.1 21 = .ok (.iload_n 1, 1) := by decide +kernel
theorem d_Mod_plan_22 : decode M_Mod_plan.2.1 22 = .ok (.ifCond .le 13, 3) := by decide +kernel
theorem d_Mod_plan_35 : decode M_Mod_plan.2.1 35 = .ok (.aload_n 0, 1) := by decide +kernel
theorem d_Mod_plan_36 : decode M_Mod_plan.2.1 36 = .ok (.getfield 312, 3) := by decide +kernel
theorem d_Mod_plan_39 : decode M_Mod_plan.2.1 39 = .ok (.bipush 10, 2) := by decide +kernel
theorem d_Mod_plan_41 : decode M_Mod_plan.2.1 41 = .ok (.if_icmp .ne 6, 3) := by decide +kernel
theorem d_Mod_plan_47 : decode M_Mod_plan.2.1 47 = .ok (.aload_n 0, 1) := by decide +kernel
theorem d_Mod_plan_48 : decode M_Mod_plan.2.1 48 = .ok (.getfield 67, 3) := by decide +kernel
theorem d_Mod_plan_51 : decode M_Mod_plan.2.1 51 = .ok (.aload_n 0, 1) := by decide +kernel
theorem d_Mod_plan_52 : decode M_Mod_plan.2.1 52 = .ok (.getfield 312, 3) := by decide +kernel
theorem d_Mod_plan_55 : decode M_Mod_plan.2.1 55 = .ok (.iload_n 1, 1) := by decide +kernel
theorem d_Mod_plan_56 : decode M_Mod_plan.2.1 56 = .ok (.iastore, 1) := by decide +kernel
theorem d_Mod_plan_57 : decode M_Mod_plan.2.1 57 = .ok (.aload_n 0, 1) := by decide +kernel
theorem d_Mod_plan_58 : decode M_Mod_plan.2.1 58 = .ok (.getfield 70, 3) := by decide +kernel
theorem d_Mod_plan_61 : decode M_Mod_plan.2.1 61 = .ok (.aload_n 0, 1) := by decide +kernel
theorem d_Mod_plan_62 : decode M_Mod_plan.2.1 62 = .ok (.dup, 1) := by decide +kernel
theorem d_Mod_plan_63 : decode M_Mod_plan.2.1 63 = .ok (.getfield 312, 3) := by decide +kernel
theorem d_Mod_plan_66 : decode M_Mod_plan.2.1 66 = .ok (.dup_x1, 1) := by decide +kernel
theorem d_Mod_plan_67 : decode M_Mod_plan.2.1 67 = .ok (.iconst 1, 1) := by decide +kernel
theorem d_Mod_plan_68 : decode M_Mod_plan.2.1 68 = .ok (.iadd, 1) := by decide +kernel
theorem d_Mod_plan_69 : decode M_Mod_plan.2.1 69 = .ok (.putfield 312, 3) := by decide +kernel
theorem d_Mod_plan_72 : decode M_Mod_plan.2.1 72 = .ok (.iload_n 1, 1) := by decide +kernel
theorem d_Mod_plan_73 : decode M_Mod_plan.2.1 73 = .ok (.ifCond .ne 7, 3) := by decide +kernel
theorem d_Mod_plan_76 : decode M_Mod_plan.2.1 76 = .ok (.iconst 0, 1) := by decide +kernel
theorem d_Mod_plan_77 : decode M_Mod_plan.2.1 77 = .ok (.goto 4, 3) := by decide +kernel
theorem d_Mod_plan_81 : decode M_Mod_plan.2.1 81 = .ok (.iastore, 1) := by decide +kernel
theorem d_Mod_plan_82 : decode M_Mod_plan.2.1 82 = .ok (.aload_n 0, 1) := by decide +kernel
theorem d_Mod_plan_83 : decode M_Mod_plan.2.1 83 = .ok (.getfield 312, 3) := by decide +kernel
theorem d_Mod_plan_86 : decode M_Mod_plan.2.1 86 = .ok (.ireturn, 1) := by decide +kernel
theorem d_Mod_plan_44 : decode M_Mod_plan.2.1 44 = .ok (.bipush (-4), 2) := by decide +kernel
theorem d_Mod_plan_46 : decode M_Mod_plan.2.1 46 = .ok (.ireturn, 1) := by decide +kernel
theorem d_Mod_plan_25 : decode M_Mod_plan.2.1 25 = .ok (.aload_n 0, 1) := by decide +kernel
theorem d_Mod_plan_26 : decode M_Mod_plan.2.1 26 = .ok (.iload_n 2, 1) := by decide +kernel
theorem d_Mod_plan_27 : decode M_Mod_plan.2.1 27 = .ok (.invokevirtual 118, 3) := by decide +kernel
theorem d_Mod_plan_30 : decode M_Mod_plan.2.1 30 = .ok (.ifCond .ne 5, 3) := by decide +kernel
theorem d_Mod_plan_80 : decode M_Mod_plan.2.1 80 = .ok (.iload_n 2, 1) := by decide +kernel
theorem d_Mod_plan_5 : decode M_Mod_plan.2.1 5 = .ok (.aload_n 0, 1) := by decide +kernel
theorem d_Mod_plan_6 : decode M_Mod_plan.2.1 6 = .ok (.iconst 0, 1) := by decide +kernel
theorem d_Mod_plan_7 : decode M_Mod_plan.2.1 7 = .ok (.putfield 312, 3) := by decide +kernel
theorem d_Mod_plan_10 : decode M_Mod_plan.2.1 10 = .ok (.iconst 0, 1) := by decide +kernel
theorem d_Mod_plan_11 : decode M_Mod_plan.2.1 11 = .ok (.ireturn, 1) := by decide +kernel
theorem c_Mod_ring (X : Xn) (a ν : Nat → Nat) (σ : Nat → Nat → Int32) (τ : Nat → Int64) (hn6 : ν 0 ≤ 6) : Does X 9 M_Mod_ring [.ref (a 0)] (MW X a ν σ τ) 0 0 (fun (vv : Option Value) (ww : va_W) => vv = some (.int (ringA (ν 0) (σ 5) (ν 0))) ∧ ww = MW X a ν σ τ) := by
  generalize hQ : (fun (vv : Option Value) (ww : va_W) => vv = some (.int (ringA (ν 0) (σ 5) (ν 0))) ∧ ww = MW X a ν σ τ) = Q
  refine Does.go rfl (Nat.le_of_ble_eq_true rfl) [some (.ref (a 0)), none, none] 2 rfl ?_
  refine r_iconst (nI 0) rfl 1 rfl d_Mod_ring_0 ?_
  refine r_istore_n (ls2 := [some (.ref (a 0)), some (.int (nI 0)), none]) 2 rfl d_Mod_ring_1 (by decide) rfl rfl ?_
  refine r_iconst (nI 0) rfl 3 rfl d_Mod_ring_2 ?_
  refine r_istore_n (ls2 := [some (.ref (a 0)), some (.int (nI 0)), some (.int (nI 0))]) 4 rfl d_Mod_ring_3 (by decide) rfl rfl ?_
  have L4_1 : ∀ (f : Nat) (k : Nat), (k ≤ ν 0) → ν 0 - k < f → Runs X 9 M_Mod_ring 0 0 Q 4 [some (.ref (a 0)), some (.int (ringA (ν 0) (σ 5) k)), some (.int (nI k))] [] 0 0 (MW X a ν σ τ) := by
    intro f
    induction f with
    | zero => intro k hk hmu; exact absurd hmu (Nat.not_lt_zero _)
    | succ f ih2 =>
      intro k hk hmu
      refine r_iload_n rfl 5 rfl d_Mod_ring_4 ?_
      refine r_aload_n rfl 6 rfl d_Mod_ring_5 ?_
      refine r_getf (v := .int (nI (ν 0))) gf_Mod_111 0 rfl rfl 9 rfl d_Mod_ring_6 ?_
      refine r_icmp_geN k (ν 0) (by omega) (by omega) 12 33 rfl rfl d_Mod_ring_9 (fun h9 => ?_) (fun h9 => ?_)
      · refine r_iload_n rfl 34 rfl d_Mod_ring_33 ?_
        exact r_iret rfl (Nat.zero_le _) (Nat.zero_le _) d_Mod_ring_34 (by rw [← hQ]; exact ⟨by rw [show k = ν 0 by omega], rfl⟩)
      · refine r_iload_n rfl 13 rfl d_Mod_ring_12 ?_
        refine r_aload_n rfl 14 rfl d_Mod_ring_13 ?_
        refine r_iload_n rfl 15 rfl d_Mod_ring_14 ?_
        refine r_iload_n rfl 16 rfl d_Mod_ring_15 ?_
        refine r_iconst (nI 1) rfl 17 rfl d_Mod_ring_16 ?_
        refine r_iload_n rfl 18 rfl d_Mod_ring_17 ?_
        refine r_ishl 19 rfl d_Mod_ring_18 ?_
        refine r_topi (nI (1 <<< k)) (nI_shl (by omega) (one_shl (by omega))) ?_
        refine r_iconst (nI 1) rfl 20 rfl d_Mod_ring_19 ?_
        refine r_callVA1 (st2 := [.int (rf (ν 0) (σ 5) k 7 k (1 <<< k) 1), .int (ringA (ν 0) (σ 5) k)]) (w2 := MW X a ν σ τ) lk_Mod_ringFrom ln_Mod_276 (c_Mod_ringFrom X a ν σ τ hn6 k (by omega) 7 k (1 <<< k) 1 (by omega) (shl_lt6 (by omega)) (Nat.lt_of_le_of_lt (cz_le _) (by decide)) (by decide)) (by first | decide | omega) rfl rfl (Nat.le_of_ble_eq_true rfl) (Nat.le_of_ble_eq_true rfl) (Nat.le_of_ble_eq_true rfl) 0 rfl rfl rfl rfl 23 rfl d_Mod_ring_20 ?_
        refine r_mmax (inTB 1235 (by decide +kernel) rfl) (by first | decide | omega) (Nat.le_of_ble_eq_true rfl) (Nat.le_of_ble_eq_true rfl) (Nat.le_of_ble_eq_true rfl) 26 rfl d_Mod_ring_23 ?_
        refine r_istore_n (ls2 := [some (.ref (a 0)), some (.int (if (ringA (ν 0) (σ 5) k) < (rf (ν 0) (σ 5) k 7 k (1 <<< k) 1) then (rf (ν 0) (σ 5) k 7 k (1 <<< k) 1) else (ringA (ν 0) (σ 5) k))), some (.int (nI k))]) 27 rfl d_Mod_ring_26 (by decide) rfl rfl ?_
        refine r_iinc (ls2 := [some (.ref (a 0)), some (.int (if (ringA (ν 0) (σ 5) k) < (rf (ν 0) (σ 5) k 7 k (1 <<< k) 1) then (rf (ν 0) (σ 5) k 7 k (1 <<< k) 1) else (ringA (ν 0) (σ 5) k))), some (.int (nI (k + 1)))]) (nI (k + 1)) rfl (nI_1 _) 30 rfl d_Mod_ring_27 (by decide) rfl rfl ?_
        refine r_goto 4 rfl d_Mod_ring_30 ?_
        exact ih2 (k + 1) (by omega) (by omega)
  exact L4_1 _ 0 (by omega) (Nat.lt_succ_self _)
theorem c_Mod_offset (X : Xn) (a ν : Nat → Nat) (σ : Nat → Nat → Int32) (τ : Nat → Int64) (hn6 : ν 0 ≤ 6) : Does X 2 M_Mod_offset [.ref (a 0)] (MW X a ν σ τ) 0 0 (fun (vv : Option Value) (ww : va_W) => vv = some (.int (offO (ν 0) (σ 5) (ν 0))) ∧ ww = MW X a ν σ τ) := by
  generalize hQ : (fun (vv : Option Value) (ww : va_W) => vv = some (.int (offO (ν 0) (σ 5) (ν 0))) ∧ ww = MW X a ν σ τ) = Q
  refine Does.go rfl (Nat.le_of_ble_eq_true rfl) [some (.ref (a 0)), none, none, none] 3 rfl ?_
  refine r_iconst (nI 0) rfl 1 rfl d_Mod_offset_0 ?_
  refine r_istore_n (ls2 := [some (.ref (a 0)), some (.int (nI 0)), none, none]) 2 rfl d_Mod_offset_1 (by decide) rfl rfl ?_
  refine r_iconst (nI 0) rfl 3 rfl d_Mod_offset_2 ?_
  refine r_istore_n (ls2 := [some (.ref (a 0)), some (.int (nI 0)), some (.int (nI 0)), none]) 4 rfl d_Mod_offset_3 (by decide) rfl rfl ?_
  have L4_1 : ∀ (f : Nat) (p : Nat), (p ≤ ν 0) → ν 0 - p < f → Runs X 2 M_Mod_offset 0 0 Q 4 [some (.ref (a 0)), some (.int (offO (ν 0) (σ 5) p)), some (.int (nI p)), none] [] 0 0 (MW X a ν σ τ) := by
    intro f
    induction f with
    | zero => intro p hp hmu; exact absurd hmu (Nat.not_lt_zero _)
    | succ f ih2 =>
      intro p hp hmu
      refine r_iload_n rfl 5 rfl d_Mod_offset_4 ?_
      refine r_aload_n rfl 6 rfl d_Mod_offset_5 ?_
      refine r_getf (v := .int (nI (ν 0))) gf_Mod_111 0 rfl rfl 9 rfl d_Mod_offset_6 ?_
      refine r_icmp_geN p (ν 0) (by omega) (by omega) 12 65 rfl rfl d_Mod_offset_9 (fun h9 => ?_) (fun h9 => ?_)
      · refine r_iload_n rfl 66 rfl d_Mod_offset_65 ?_
        exact r_iret rfl (Nat.zero_le _) (Nat.zero_le _) d_Mod_offset_66 (by rw [← hQ]; exact ⟨by rw [show p = ν 0 by omega], rfl⟩)
      · refine r_iload_n rfl 13 rfl d_Mod_offset_12 ?_
        refine r_iconst (nI 1) rfl 14 rfl d_Mod_offset_13 ?_
        refine r_iadd 15 rfl d_Mod_offset_14 ?_
        refine r_topi (nI (p + 1)) (nI_add _ _) ?_
        refine r_istore_n (ls2 := [some (.ref (a 0)), some (.int (offO (ν 0) (σ 5) p)), some (.int (nI p)), some (.int (nI (p + 1)))]) 16 rfl d_Mod_offset_15 (by decide) rfl rfl ?_
        have L16_3 : ∀ (f : Nat) (j : Nat), (p + 1 + j ≤ ν 0) → ν 0 - (p + 1 + j) < f → Runs X 2 M_Mod_offset 0 0 Q 16 [some (.ref (a 0)), some (.int (offI (σ 5) p (offO (ν 0) (σ 5) p) j)), some (.int (nI p)), some (.int (nI (p + 1 + j)))] [] 0 0 (MW X a ν σ τ) := by
          intro f
          induction f with
          | zero => intro j hj hmu; exact absurd hmu (Nat.not_lt_zero _)
          | succ f ih4 =>
            intro j hj hmu
            refine r_iload_n rfl 17 rfl d_Mod_offset_16 ?_
            refine r_aload_n rfl 18 rfl d_Mod_offset_17 ?_
            refine r_getf (v := .int (nI (ν 0))) gf_Mod_111 0 rfl rfl 21 rfl d_Mod_offset_18 ?_
            refine r_icmp_geN (p + 1 + j) (ν 0) (by omega) (by omega) 24 59 rfl rfl d_Mod_offset_21 (fun h21 => ?_) (fun h21 => ?_)
            · refine r_iinc (ls2 := [some (.ref (a 0)), some (.int (offI (σ 5) p (offO (ν 0) (σ 5) p) j)), some (.int (nI (p + 1))), some (.int (nI (p + 1 + j)))]) (nI (p + 1)) rfl (nI_1 _) 62 rfl d_Mod_offset_59 (by decide) rfl rfl ?_
              refine r_goto 4 rfl d_Mod_offset_62 ?_
              refine r_forget (ls2 := [some (.ref (a 0)), some (.int (offI (σ 5) p (offO (ν 0) (σ 5) p) j)), some (.int (nI (p + 1))), none]) 3 rfl ?_
              refine Runs.cast (ih2 (p + 1) (by omega) (by omega)) (by rw [show j = ν 0 - (p + 1) by omega]; try rfl) rfl (rfl)
            · refine r_iload_n rfl 25 rfl d_Mod_offset_24 ?_
              refine r_aload_n rfl 26 rfl d_Mod_offset_25 ?_
              refine r_getf (v := .ref (a 5)) gf_Mod_24 0 rfl rfl 29 rfl d_Mod_offset_26 ?_
              refine r_bipush (nI 6) rfl 31 rfl d_Mod_offset_29 ?_
              refine r_iload_n rfl 32 rfl d_Mod_offset_31 ?_
              refine r_imul 33 rfl d_Mod_offset_32 ?_
              refine r_topi (nI (6 * p)) (pk_mul _ _) ?_
              refine r_iload_n rfl 34 rfl d_Mod_offset_33 ?_
              refine r_iadd 35 rfl d_Mod_offset_34 ?_
              refine r_topi (nI ((6 * p) + (p + 1 + j))) (nI_add _ _) ?_
              refine r_iald 5 rfl ((6 * p) + (p + 1 + j)) rfl (by omega) (by omega) 36 rfl d_Mod_offset_35 ?_
              refine r_aload_n rfl 37 rfl d_Mod_offset_36 ?_
              refine r_getf (v := .ref (a 5)) gf_Mod_24 0 rfl rfl 40 rfl d_Mod_offset_37 ?_
              refine r_bipush (nI 6) rfl 42 rfl d_Mod_offset_40 ?_
              refine r_iload_n rfl 43 rfl d_Mod_offset_42 ?_
              refine r_imul 44 rfl d_Mod_offset_43 ?_
              refine r_topi (nI (6 * (p + 1 + j))) (pk_mul _ _) ?_
              refine r_iload_n rfl 45 rfl d_Mod_offset_44 ?_
              refine r_iadd 46 rfl d_Mod_offset_45 ?_
              refine r_topi (nI ((6 * (p + 1 + j)) + p)) (nI_add _ _) ?_
              refine r_iald 5 rfl ((6 * (p + 1 + j)) + p) rfl (by omega) (by omega) 47 rfl d_Mod_offset_46 ?_
              refine r_isub 48 rfl d_Mod_offset_47 ?_
              refine r_mabs (inTB 1248 (by decide +kernel) rfl) (by first | decide | omega) (Nat.le_of_ble_eq_true rfl) (Nat.le_of_ble_eq_true rfl) (Nat.le_of_ble_eq_true rfl) 51 rfl d_Mod_offset_48 ?_
              refine r_iadd 52 rfl d_Mod_offset_51 ?_
              refine r_istore_n (ls2 := [some (.ref (a 0)), some (.int ((offI (σ 5) p (offO (ν 0) (σ 5) p) j) + (if 0 ≤ ((σ 5 ((6 * p) + (p + 1 + j))) - (σ 5 ((6 * (p + 1 + j)) + p))) then ((σ 5 ((6 * p) + (p + 1 + j))) - (σ 5 ((6 * (p + 1 + j)) + p))) else 0 - ((σ 5 ((6 * p) + (p + 1 + j))) - (σ 5 ((6 * (p + 1 + j)) + p)))))), some (.int (nI p)), some (.int (nI (p + 1 + j)))]) 53 rfl d_Mod_offset_52 (by decide) rfl rfl ?_
              refine r_iinc (ls2 := [some (.ref (a 0)), some (.int ((offI (σ 5) p (offO (ν 0) (σ 5) p) j) + (if 0 ≤ ((σ 5 ((6 * p) + (p + 1 + j))) - (σ 5 ((6 * (p + 1 + j)) + p))) then ((σ 5 ((6 * p) + (p + 1 + j))) - (σ 5 ((6 * (p + 1 + j)) + p))) else 0 - ((σ 5 ((6 * p) + (p + 1 + j))) - (σ 5 ((6 * (p + 1 + j)) + p)))))), some (.int (nI p)), some (.int (nI ((p + 1 + j) + 1)))]) (nI ((p + 1 + j) + 1)) rfl (nI_1 _) 56 rfl d_Mod_offset_53 (by decide) rfl rfl ?_
              refine r_goto 16 rfl d_Mod_offset_56 ?_
              exact ih4 (j + 1) (by omega) (by omega)
        exact L16_3 _ 0 (by omega) (Nat.lt_succ_self _)
  exact L4_1 _ 0 (by omega) (Nat.lt_succ_self _)
theorem c_Mod_allDebt (X : Xn) (a ν : Nat → Nat) (σ : Nat → Nat → Int32) (τ : Nat → Int64) (hn6 : ν 0 ≤ 6) : Does X 2 M_Mod_allDebt [.ref (a 0)] (MW X a ν σ τ) 0 0 (fun (vv : Option Value) (ww : va_W) => vv = some (.int (osumAll (ν 0) (σ 5) (ν 0))) ∧ ww = MW X a ν σ τ) := by
  generalize hQ : (fun (vv : Option Value) (ww : va_W) => vv = some (.int (osumAll (ν 0) (σ 5) (ν 0))) ∧ ww = MW X a ν σ τ) = Q
  refine Does.go rfl (Nat.le_of_ble_eq_true rfl) [some (.ref (a 0)), none, none] 2 rfl ?_
  refine r_iconst (nI 0) rfl 1 rfl d_Mod_allDebt_0 ?_
  refine r_istore_n (ls2 := [some (.ref (a 0)), some (.int (nI 0)), none]) 2 rfl d_Mod_allDebt_1 (by decide) rfl rfl ?_
  refine r_iconst (nI 0) rfl 3 rfl d_Mod_allDebt_2 ?_
  refine r_istore_n (ls2 := [some (.ref (a 0)), some (.int (nI 0)), some (.int (nI 0))]) 4 rfl d_Mod_allDebt_3 (by decide) rfl rfl ?_
  have L4_1 : ∀ (f : Nat) (k : Nat), (k ≤ ν 0) → ν 0 - k < f → Runs X 2 M_Mod_allDebt 0 0 Q 4 [some (.ref (a 0)), some (.int (osumAll (ν 0) (σ 5) k)), some (.int (nI k))] [] 0 0 (MW X a ν σ τ) := by
    intro f
    induction f with
    | zero => intro k hk hmu; exact absurd hmu (Nat.not_lt_zero _)
    | succ f ih2 =>
      intro k hk hmu
      refine r_iload_n rfl 5 rfl d_Mod_allDebt_4 ?_
      refine r_aload_n rfl 6 rfl d_Mod_allDebt_5 ?_
      refine r_getf (v := .int (nI (ν 0))) gf_Mod_111 0 rfl rfl 9 rfl d_Mod_allDebt_6 ?_
      refine r_icmp_geN k (ν 0) (by omega) (by omega) 12 26 rfl rfl d_Mod_allDebt_9 (fun h9 => ?_) (fun h9 => ?_)
      · refine r_iload_n rfl 27 rfl d_Mod_allDebt_26 ?_
        exact r_iret rfl (Nat.zero_le _) (Nat.zero_le _) d_Mod_allDebt_27 (by rw [← hQ]; exact ⟨by rw [show k = ν 0 by omega], rfl⟩)
      · refine r_iload_n rfl 13 rfl d_Mod_allDebt_12 ?_
        refine r_aload_n rfl 14 rfl d_Mod_allDebt_13 ?_
        refine r_iload_n rfl 15 rfl d_Mod_allDebt_14 ?_
        refine r_callVA1 (st2 := [.int (osum (σ 5) k (ν 0)), .int (osumAll (ν 0) (σ 5) k)]) (w2 := MW X a ν σ τ) lk_Mod_owes ln_Mod_126 (c_Mod_owes X a ν σ τ (by first | omega | exact hn6) k (by omega)) (by first | decide | omega) rfl rfl (Nat.le_of_ble_eq_true rfl) (Nat.le_of_ble_eq_true rfl) (Nat.le_of_ble_eq_true rfl) 0 rfl rfl rfl rfl 18 rfl d_Mod_allDebt_15 ?_
        refine r_iadd 19 rfl d_Mod_allDebt_18 ?_
        refine r_istore_n (ls2 := [some (.ref (a 0)), some (.int ((osumAll (ν 0) (σ 5) k) + (osum (σ 5) k (ν 0)))), some (.int (nI k))]) 20 rfl d_Mod_allDebt_19 (by decide) rfl rfl ?_
        refine r_iinc (ls2 := [some (.ref (a 0)), some (.int ((osumAll (ν 0) (σ 5) k) + (osum (σ 5) k (ν 0)))), some (.int (nI (k + 1)))]) (nI (k + 1)) rfl (nI_1 _) 23 rfl d_Mod_allDebt_20 (by decide) rfl rfl ?_
        refine r_goto 4 rfl d_Mod_allDebt_23 ?_
        exact ih2 (k + 1) (by omega) (by omega)
  exact L4_1 _ 0 (by omega) (Nat.lt_succ_self _)
theorem c_Mod_owe (X : Xn) (a ν : Nat → Nat) (σ : Nat → Nat → Int32) (τ : Nat → Int64) (hn6 : ν 0 ≤ 6) (p q x : Int32) : Does X 4 M_Mod_owe [.ref (a 0), .int p, .int q, .int x] (MW X a ν σ τ) 0 0 (fun (vv : Option Value) (ww : va_W) => vv = some (.int (R_owe (ν 0) (σ 5) p q x)) ∧ ww = MW X a ν (if b_owe (ν 0) p q x = true then u2 σ 5 (upd (σ 5) (6 * cn p + cn q) x) else σ) τ) := by
  generalize hQ : (fun (vv : Option Value) (ww : va_W) => vv = some (.int (R_owe (ν 0) (σ 5) p q x)) ∧ ww = MW X a ν (if b_owe (ν 0) p q x = true then u2 σ 5 (upd (σ 5) (6 * cn p + cn q) x) else σ) τ) = Q
  refine Does.go rfl (Nat.le_of_ble_eq_true rfl) [some (.ref (a 0)), some (.int p), some (.int q), some (.int x), none] 1 rfl ?_
  refine r_aload_n rfl 1 rfl d_Mod_owe_0 ?_
  refine r_iload_n rfl 2 rfl d_Mod_owe_1 ?_
  refine r_iload_n rfl 3 rfl d_Mod_owe_2 ?_
  refine r_callVA1 (st2 := [.int (bI (isB (ν 0) p && isB (ν 0) q))]) (w2 := MW X a ν σ τ) lk_Mod_are ln_Mod_140 (c_Mod_are X a ν σ τ p q) (by first | decide | omega) rfl rfl (Nat.le_of_ble_eq_true rfl) (Nat.le_of_ble_eq_true rfl) (Nat.le_of_ble_eq_true rfl) 0 rfl rfl rfl rfl 6 rfl d_Mod_owe_3 ?_
  refine r_if_neB 9 11 rfl rfl d_Mod_owe_6 (fun h6 => ?_) (fun h6 => ?_)
  · obtain ⟨pN, qN, hpN, hqN, rfl, rfl⟩ := are_t hn6 h6
    have epN : cn (nI pN) = pN := cn_nI (by omega)
    have mpN : ¬ nI pN = -1 := m1n (by omega)
    have eqN : cn (nI qN) = qN := cn_nI (by omega)
    have mqN : ¬ nI qN = -1 := m1n (by omega)
    have bpN := isB_of hn6 hpN
    have bqN := isB_of hn6 hqN
    have epq : (nI pN = nI qN) = (pN = qN) := propext (nI_eq (by omega) (by omega))
    refine r_iload_n rfl 12 rfl d_Mod_owe_11 ?_
    refine r_iload_n rfl 13 rfl d_Mod_owe_12 ?_
    refine r_icmp_eqN pN qN (by omega) (by omega) 16 27 rfl rfl d_Mod_owe_13 (fun h13 => ?_) (fun h13 => ?_)
    · refine r_bipush ((-2)) rfl 29 rfl d_Mod_owe_27 ?_
      exact r_iret rfl (Nat.zero_le _) (Nat.zero_le _) d_Mod_owe_29 (by rw [← hQ]; exact ⟨by simp [R_owe, b_owe, h6, epN, mpN, eqN, mqN, bpN, bqN, epq, h13], by first | (simp [R_owe, b_owe, h6, epN, mpN, eqN, mqN, bpN, bqN, epq, h13, u2_self, u1_self]; done) | (simp [R_owe, b_owe, h6, epN, mpN, eqN, mqN, bpN, bqN, epq, h13, u2_self, u1_self]; rw [← h13, u1_self])⟩)
    · refine r_iload_n rfl 17 rfl d_Mod_owe_16 ?_
      refine r_iconst (nI 0) rfl 18 rfl d_Mod_owe_17 ?_
      refine r_sipush (nI 9999) rfl 21 rfl d_Mod_owe_18 ?_
      refine r_callS1 (st2 := [.int (bI (inR x (nI 0) (nI 9999)))]) (w2 := MW X a ν σ τ) lk_Mod_within ln_Mod_114 (c_Mod_within X x (nI 0) (nI 9999)) (by first | decide | omega) rfl rfl (Nat.le_of_ble_eq_true rfl) (Nat.le_of_ble_eq_true rfl) (Nat.le_of_ble_eq_true rfl) [] rfl rfl rfl rfl rfl 24 rfl d_Mod_owe_21 ?_
      refine r_if_neB 27 30 rfl rfl d_Mod_owe_24 (fun h24 => ?_) (fun h24 => ?_)
      · obtain ⟨xN, hxN, rfl⟩ := inR_t (by decide) h24
        have exN : cn (nI xN) = xN := cn_nI (by omega)
        have mxN : ¬ nI xN = -1 := m1n (by omega)
        refine r_aload_n rfl 31 rfl d_Mod_owe_30 ?_
        refine r_getf (v := .ref (a 5)) gf_Mod_24 0 rfl rfl 34 rfl d_Mod_owe_31 ?_
        refine r_bipush (nI 6) rfl 36 rfl d_Mod_owe_34 ?_
        refine r_iload_n rfl 37 rfl d_Mod_owe_36 ?_
        refine r_imul 38 rfl d_Mod_owe_37 ?_
        refine r_topi (nI (6 * pN)) (pk_mul _ _) ?_
        refine r_iload_n rfl 39 rfl d_Mod_owe_38 ?_
        refine r_iadd 40 rfl d_Mod_owe_39 ?_
        refine r_topi (nI ((6 * pN) + qN)) (nI_add _ _) ?_
        refine r_iald 5 rfl ((6 * pN) + qN) rfl (by omega) (by omega) 41 rfl d_Mod_owe_40 ?_
        refine r_istore (ls2 := [some (.ref (a 0)), some (.int (nI pN)), some (.int (nI qN)), some (.int (nI xN)), some (.int (σ 5 ((6 * pN) + qN)))]) 43 rfl d_Mod_owe_41 (by decide) rfl rfl ?_
        refine r_aload_n rfl 44 rfl d_Mod_owe_43 ?_
        refine r_getf (v := .ref (a 5)) gf_Mod_24 0 rfl rfl 47 rfl d_Mod_owe_44 ?_
        refine r_bipush (nI 6) rfl 49 rfl d_Mod_owe_47 ?_
        refine r_iload_n rfl 50 rfl d_Mod_owe_49 ?_
        refine r_imul 51 rfl d_Mod_owe_50 ?_
        refine r_topi (nI (6 * pN)) (pk_mul _ _) ?_
        refine r_iload_n rfl 52 rfl d_Mod_owe_51 ?_
        refine r_iadd 53 rfl d_Mod_owe_52 ?_
        refine r_topi (nI ((6 * pN) + qN)) (nI_add _ _) ?_
        refine r_iload_n rfl 54 rfl d_Mod_owe_53 ?_
        refine r_iast (w2 := MW X a ν (u2 σ 5 (upd (σ 5) ((6 * pN) + qN) (nI xN))) τ) 5 rfl ((6 * pN) + qN) rfl (by omega) (by omega) rfl 55 rfl d_Mod_owe_54 ?_
        refine r_iload rfl 57 rfl d_Mod_owe_55 ?_
        exact r_iret rfl (Nat.zero_le _) (Nat.zero_le _) d_Mod_owe_57 (by rw [← hQ]; exact ⟨by simp [R_owe, b_owe, h6, epN, mpN, eqN, mqN, bpN, bqN, epq, h13, h24, exN, mxN], by first | (simp [R_owe, b_owe, h6, epN, mpN, eqN, mqN, bpN, bqN, epq, h13, h24, exN, mxN, u2_self, u1_self]; done) | (simp [R_owe, b_owe, h6, epN, mpN, eqN, mqN, bpN, bqN, epq, h13, h24, exN, mxN, u2_self, u1_self]; rw [← mxN, u1_self])⟩)
      · refine r_bipush ((-2)) rfl 29 rfl d_Mod_owe_27 ?_
        exact r_iret rfl (Nat.zero_le _) (Nat.zero_le _) d_Mod_owe_29 (by rw [← hQ]; exact ⟨by simp [R_owe, b_owe, h6, epN, mpN, eqN, mqN, bpN, bqN, epq, h13, h24], by first | (simp [R_owe, b_owe, h6, epN, mpN, eqN, mqN, bpN, bqN, epq, h13, h24, u2_self, u1_self]; done) | (simp [R_owe, b_owe, h6, epN, mpN, eqN, mqN, bpN, bqN, epq, h13, h24, u2_self, u1_self]; rw [← h24, u1_self])⟩)
  · refine r_iconst ((-1)) rfl 10 rfl d_Mod_owe_9 ?_
    exact r_iret rfl (Nat.zero_le _) (Nat.zero_le _) d_Mod_owe_10 (by rw [← hQ]; exact ⟨by simp [R_owe, b_owe, h6], by first | (simp [R_owe, b_owe, h6, u2_self, u1_self]; done) | (simp [R_owe, b_owe, h6, u2_self, u1_self]; rw [← h6, u1_self])⟩)
theorem c_Mod_purse (X : Xn) (a ν : Nat → Nat) (σ : Nat → Nat → Int32) (τ : Nat → Int64) (hn6 : ν 0 ≤ 6) (p x : Int32) : Does X 4 M_Mod_purse [.ref (a 0), .int p, .int x] (MW X a ν σ τ) 0 0 (fun (vv : Option Value) (ww : va_W) => vv = some (.int (R_purse (ν 0) (σ 3) p x)) ∧ ww = MW X a ν (if b_purse (ν 0) p x = true then u2 σ 3 (upd (σ 3) (cn p) x) else σ) τ) := by
  generalize hQ : (fun (vv : Option Value) (ww : va_W) => vv = some (.int (R_purse (ν 0) (σ 3) p x)) ∧ ww = MW X a ν (if b_purse (ν 0) p x = true then u2 σ 3 (upd (σ 3) (cn p) x) else σ) τ) = Q
  refine Does.go rfl (Nat.le_of_ble_eq_true rfl) [some (.ref (a 0)), some (.int p), some (.int x), none] 1 rfl ?_
  refine r_aload_n rfl 1 rfl d_Mod_purse_0 ?_
  refine r_iload_n rfl 2 rfl d_Mod_purse_1 ?_
  refine r_callVA1 (st2 := [.int (bI (isB (ν 0) p))]) (w2 := MW X a ν σ τ) lk_Mod_isOne ln_Mod_118 (c_Mod_isOne X a ν σ τ p) (by first | decide | omega) rfl rfl (Nat.le_of_ble_eq_true rfl) (Nat.le_of_ble_eq_true rfl) (Nat.le_of_ble_eq_true rfl) 0 rfl rfl rfl rfl 5 rfl d_Mod_purse_2 ?_
  refine r_if_neB 8 10 rfl rfl d_Mod_purse_5 (fun h5 => ?_) (fun h5 => ?_)
  · obtain ⟨pN, hpN, rfl⟩ := isB_t hn6 h5
    have epN : cn (nI pN) = pN := cn_nI (by omega)
    have mpN : ¬ nI pN = -1 := m1n (by omega)
    refine r_iload_n rfl 11 rfl d_Mod_purse_10 ?_
    refine r_iconst (nI 0) rfl 12 rfl d_Mod_purse_11 ?_
    refine r_sipush (nI 9999) rfl 15 rfl d_Mod_purse_12 ?_
    refine r_callS1 (st2 := [.int (bI (inR x (nI 0) (nI 9999)))]) (w2 := MW X a ν σ τ) lk_Mod_within ln_Mod_114 (c_Mod_within X x (nI 0) (nI 9999)) (by first | decide | omega) rfl rfl (Nat.le_of_ble_eq_true rfl) (Nat.le_of_ble_eq_true rfl) (Nat.le_of_ble_eq_true rfl) [] rfl rfl rfl rfl rfl 18 rfl d_Mod_purse_15 ?_
    refine r_if_neB 21 24 rfl rfl d_Mod_purse_18 (fun h18 => ?_) (fun h18 => ?_)
    · obtain ⟨xN, hxN, rfl⟩ := inR_t (by decide) h18
      have exN : cn (nI xN) = xN := cn_nI (by omega)
      have mxN : ¬ nI xN = -1 := m1n (by omega)
      refine r_aload_n rfl 25 rfl d_Mod_purse_24 ?_
      refine r_getf (v := .ref (a 3)) gf_Mod_18 0 rfl rfl 28 rfl d_Mod_purse_25 ?_
      refine r_iload_n rfl 29 rfl d_Mod_purse_28 ?_
      refine r_iald 3 rfl pN rfl (by omega) (by omega) 30 rfl d_Mod_purse_29 ?_
      refine r_istore_n (ls2 := [some (.ref (a 0)), some (.int (nI pN)), some (.int (nI xN)), some (.int (σ 3 pN))]) 31 rfl d_Mod_purse_30 (by decide) rfl rfl ?_
      refine r_aload_n rfl 32 rfl d_Mod_purse_31 ?_
      refine r_getf (v := .ref (a 3)) gf_Mod_18 0 rfl rfl 35 rfl d_Mod_purse_32 ?_
      refine r_iload_n rfl 36 rfl d_Mod_purse_35 ?_
      refine r_iload_n rfl 37 rfl d_Mod_purse_36 ?_
      refine r_iast (w2 := MW X a ν (u2 σ 3 (upd (σ 3) pN (nI xN))) τ) 3 rfl pN rfl (by omega) (by omega) rfl 38 rfl d_Mod_purse_37 ?_
      refine r_iload_n rfl 39 rfl d_Mod_purse_38 ?_
      exact r_iret rfl (Nat.zero_le _) (Nat.zero_le _) d_Mod_purse_39 (by rw [← hQ]; exact ⟨by simp [R_purse, b_purse, h5, epN, mpN, h18, exN, mxN], by first | (simp [R_purse, b_purse, h5, epN, mpN, h18, exN, mxN, u2_self, u1_self]; done) | (simp [R_purse, b_purse, h5, epN, mpN, h18, exN, mxN, u2_self, u1_self]; rw [← mxN, u1_self])⟩)
    · refine r_bipush ((-2)) rfl 23 rfl d_Mod_purse_21 ?_
      exact r_iret rfl (Nat.zero_le _) (Nat.zero_le _) d_Mod_purse_23 (by rw [← hQ]; exact ⟨by simp [R_purse, b_purse, h5, epN, mpN, h18], by first | (simp [R_purse, b_purse, h5, epN, mpN, h18, u2_self, u1_self]; done) | (simp [R_purse, b_purse, h5, epN, mpN, h18, u2_self, u1_self]; rw [← h18, u1_self])⟩)
  · refine r_iconst ((-1)) rfl 9 rfl d_Mod_purse_8 ?_
    exact r_iret rfl (Nat.zero_le _) (Nat.zero_le _) d_Mod_purse_9 (by rw [← hQ]; exact ⟨by simp [R_purse, b_purse, h5], by first | (simp [R_purse, b_purse, h5, u2_self, u1_self]; done) | (simp [R_purse, b_purse, h5, u2_self, u1_self]; rw [← h5, u1_self])⟩)
theorem c_Mod_row (X : Xn) (a ν : Nat → Nat) (σ : Nat → Nat → Int32) (τ : Nat → Int64) (hn6 : ν 0 ≤ 6) (p k x : Int32) : Does X 4 M_Mod_row [.ref (a 0), .int p, .int k, .int x] (MW X a ν σ τ) 0 0 (fun (vv : Option Value) (ww : va_W) => vv = some (.int (R_row (ν 0) (σ 1) (σ 4) p k x)) ∧ ww = MW X a ν (if b_row (ν 0) (σ 1) p k x = true then u2 σ 4 (upd (σ 4) (4 * cn p + cn k) x) else σ) τ) := by
  generalize hQ : (fun (vv : Option Value) (ww : va_W) => vv = some (.int (R_row (ν 0) (σ 1) (σ 4) p k x)) ∧ ww = MW X a ν (if b_row (ν 0) (σ 1) p k x = true then u2 σ 4 (upd (σ 4) (4 * cn p + cn k) x) else σ) τ) = Q
  refine Does.go rfl (Nat.le_of_ble_eq_true rfl) [some (.ref (a 0)), some (.int p), some (.int k), some (.int x), none] 1 rfl ?_
  refine r_aload_n rfl 1 rfl d_Mod_row_0 ?_
  refine r_iload_n rfl 2 rfl d_Mod_row_1 ?_
  refine r_callVA1 (st2 := [.int (bI (isB (ν 0) p))]) (w2 := MW X a ν σ τ) lk_Mod_isOne ln_Mod_118 (c_Mod_isOne X a ν σ τ p) (by first | decide | omega) rfl rfl (Nat.le_of_ble_eq_true rfl) (Nat.le_of_ble_eq_true rfl) (Nat.le_of_ble_eq_true rfl) 0 rfl rfl rfl rfl 5 rfl d_Mod_row_2 ?_
  refine r_if_eqB 8 17 rfl rfl d_Mod_row_5 (fun h5 => ?_) (fun h5 => ?_)
  · refine r_iconst ((-1)) rfl 18 rfl d_Mod_row_17 ?_
    exact r_iret rfl (Nat.zero_le _) (Nat.zero_le _) d_Mod_row_18 (by rw [← hQ]; exact ⟨by simp [R_row, b_row, h5], by first | (simp [R_row, b_row, h5, u2_self, u1_self]; done) | (simp [R_row, b_row, h5, u2_self, u1_self]; rw [← h5, u1_self])⟩)
  · obtain ⟨pN, hpN, rfl⟩ := isB_t hn6 h5
    have epN : cn (nI pN) = pN := cn_nI (by omega)
    have mpN : ¬ nI pN = -1 := m1n (by omega)
    refine r_iload_n rfl 9 rfl d_Mod_row_8 ?_
    refine r_iconst (nI 0) rfl 10 rfl d_Mod_row_9 ?_
    refine r_iconst (nI 3) rfl 11 rfl d_Mod_row_10 ?_
    refine r_callS1 (st2 := [.int (bI (inR k (nI 0) (nI 3)))]) (w2 := MW X a ν σ τ) lk_Mod_within ln_Mod_114 (c_Mod_within X k (nI 0) (nI 3)) (by first | decide | omega) rfl rfl (Nat.le_of_ble_eq_true rfl) (Nat.le_of_ble_eq_true rfl) (Nat.le_of_ble_eq_true rfl) [] rfl rfl rfl rfl rfl 14 rfl d_Mod_row_11 ?_
    refine r_if_neB 17 19 rfl rfl d_Mod_row_14 (fun h14 => ?_) (fun h14 => ?_)
    · obtain ⟨kN, hkN, rfl⟩ := inR_t (by decide) h14
      have ekN : cn (nI kN) = kN := cn_nI (by omega)
      have mkN : ¬ nI kN = -1 := m1n (by omega)
      refine r_iload_n rfl 20 rfl d_Mod_row_19 ?_
      refine r_iconst (nI 0) rfl 21 rfl d_Mod_row_20 ?_
      refine r_bipush (nI 9) rfl 23 rfl d_Mod_row_21 ?_
      refine r_callS1 (st2 := [.int (bI (inR x (nI 0) (nI 9)))]) (w2 := MW X a ν σ τ) lk_Mod_within ln_Mod_114 (c_Mod_within X x (nI 0) (nI 9)) (by first | decide | omega) rfl rfl (Nat.le_of_ble_eq_true rfl) (Nat.le_of_ble_eq_true rfl) (Nat.le_of_ble_eq_true rfl) [] rfl rfl rfl rfl rfl 26 rfl d_Mod_row_23 ?_
      refine r_if_neB 29 32 rfl rfl d_Mod_row_26 (fun h26 => ?_) (fun h26 => ?_)
      · obtain ⟨xN, hxN, rfl⟩ := inR_t (by decide) h26
        have exN : cn (nI xN) = xN := cn_nI (by omega)
        have mxN : ¬ nI xN = -1 := m1n (by omega)
        refine r_aload_n rfl 33 rfl d_Mod_row_32 ?_
        refine r_getf (v := .ref (a 1)) gf_Mod_9 0 rfl rfl 36 rfl d_Mod_row_33 ?_
        refine r_iload_n rfl 37 rfl d_Mod_row_36 ?_
        refine r_iald 1 rfl pN rfl (by omega) (by omega) 38 rfl d_Mod_row_37 ?_
        refine r_bipush (nI 6) rfl 40 rfl d_Mod_row_38 ?_
        refine r_icmp_eq 43 46 rfl rfl d_Mod_row_40 (fun h40 => ?_) (fun h40 => ?_)
        · refine r_aload_n rfl 47 rfl d_Mod_row_46 ?_
          refine r_getf (v := .ref (a 4)) gf_Mod_21 0 rfl rfl 50 rfl d_Mod_row_47 ?_
          refine r_iconst (nI 4) rfl 51 rfl d_Mod_row_50 ?_
          refine r_iload_n rfl 52 rfl d_Mod_row_51 ?_
          refine r_imul 53 rfl d_Mod_row_52 ?_
          refine r_topi (nI (4 * pN)) (pk_mul _ _) ?_
          refine r_iload_n rfl 54 rfl d_Mod_row_53 ?_
          refine r_iadd 55 rfl d_Mod_row_54 ?_
          refine r_topi (nI ((4 * pN) + kN)) (nI_add _ _) ?_
          refine r_iald 4 rfl ((4 * pN) + kN) rfl (by omega) (by omega) 56 rfl d_Mod_row_55 ?_
          refine r_istore (ls2 := [some (.ref (a 0)), some (.int (nI pN)), some (.int (nI kN)), some (.int (nI xN)), some (.int (σ 4 ((4 * pN) + kN)))]) 58 rfl d_Mod_row_56 (by decide) rfl rfl ?_
          refine r_aload_n rfl 59 rfl d_Mod_row_58 ?_
          refine r_getf (v := .ref (a 4)) gf_Mod_21 0 rfl rfl 62 rfl d_Mod_row_59 ?_
          refine r_iconst (nI 4) rfl 63 rfl d_Mod_row_62 ?_
          refine r_iload_n rfl 64 rfl d_Mod_row_63 ?_
          refine r_imul 65 rfl d_Mod_row_64 ?_
          refine r_topi (nI (4 * pN)) (pk_mul _ _) ?_
          refine r_iload_n rfl 66 rfl d_Mod_row_65 ?_
          refine r_iadd 67 rfl d_Mod_row_66 ?_
          refine r_topi (nI ((4 * pN) + kN)) (nI_add _ _) ?_
          refine r_iload_n rfl 68 rfl d_Mod_row_67 ?_
          refine r_iast (w2 := MW X a ν (u2 σ 4 (upd (σ 4) ((4 * pN) + kN) (nI xN))) τ) 4 rfl ((4 * pN) + kN) rfl (by omega) (by omega) rfl 69 rfl d_Mod_row_68 ?_
          refine r_iload rfl 71 rfl d_Mod_row_69 ?_
          exact r_iret rfl (Nat.zero_le _) (Nat.zero_le _) d_Mod_row_71 (by rw [← hQ]; exact ⟨by simp [R_row, b_row, h5, epN, mpN, h14, ekN, mkN, h26, exN, mxN, h40], by first | (simp [R_row, b_row, h5, epN, mpN, h14, ekN, mkN, h26, exN, mxN, h40, u2_self, u1_self]; done) | (simp [R_row, b_row, h5, epN, mpN, h14, ekN, mkN, h26, exN, mxN, h40, u2_self, u1_self]; rw [← h40, u1_self])⟩)
        · refine r_bipush ((-3)) rfl 45 rfl d_Mod_row_43 ?_
          exact r_iret rfl (Nat.zero_le _) (Nat.zero_le _) d_Mod_row_45 (by rw [← hQ]; exact ⟨by simp [R_row, b_row, h5, epN, mpN, h14, ekN, mkN, h26, exN, mxN, h40], by first | (simp [R_row, b_row, h5, epN, mpN, h14, ekN, mkN, h26, exN, mxN, h40, u2_self, u1_self]; done) | (simp [R_row, b_row, h5, epN, mpN, h14, ekN, mkN, h26, exN, mxN, h40, u2_self, u1_self]; rw [← h40, u1_self])⟩)
      · refine r_bipush ((-2)) rfl 31 rfl d_Mod_row_29 ?_
        exact r_iret rfl (Nat.zero_le _) (Nat.zero_le _) d_Mod_row_31 (by rw [← hQ]; exact ⟨by simp [R_row, b_row, h5, epN, mpN, h14, ekN, mkN, h26], by first | (simp [R_row, b_row, h5, epN, mpN, h14, ekN, mkN, h26, u2_self, u1_self]; done) | (simp [R_row, b_row, h5, epN, mpN, h14, ekN, mkN, h26, u2_self, u1_self]; rw [← h26, u1_self])⟩)
    · refine r_iconst ((-1)) rfl 18 rfl d_Mod_row_17 ?_
      exact r_iret rfl (Nat.zero_le _) (Nat.zero_le _) d_Mod_row_18 (by rw [← hQ]; exact ⟨by simp [R_row, b_row, h5, epN, mpN, h14], by first | (simp [R_row, b_row, h5, epN, mpN, h14, u2_self, u1_self]; done) | (simp [R_row, b_row, h5, epN, mpN, h14, u2_self, u1_self]; rw [← h14, u1_self])⟩)
theorem c_Mod_feed (X : Xn) (a ν : Nat → Nat) (σ : Nat → Nat → Int32) (τ : Nat → Int64) (ht : ν 7 ≤ 100) (x : Int32) : Does X 2 M_Mod_feed [.ref (a 0), .int x] (MW X a ν σ τ) 0 0 (fun (vv : Option Value) (ww : va_W) => vv = some (.int (R_feed (ν 7) x)) ∧ ww = MW X a (if b_feed (ν 7) x = true then u1 ν 7 (ν 7 + 1) else ν) (if b_feed (ν 7) x = true then u2 σ 8 (upd (σ 8) (ν 7) x) else σ) τ) := by
  generalize hQ : (fun (vv : Option Value) (ww : va_W) => vv = some (.int (R_feed (ν 7) x)) ∧ ww = MW X a (if b_feed (ν 7) x = true then u1 ν 7 (ν 7 + 1) else ν) (if b_feed (ν 7) x = true then u2 σ 8 (upd (σ 8) (ν 7) x) else σ) τ) = Q
  refine Does.go rfl (Nat.le_of_ble_eq_true rfl) [some (.ref (a 0)), some (.int x)] 0 rfl ?_
  refine r_iload_n rfl 1 rfl d_Mod_feed_0 ?_
  refine r_iconst (nI 0) rfl 2 rfl d_Mod_feed_1 ?_
  refine r_bipush (nI 127) rfl 4 rfl d_Mod_feed_2 ?_
  refine r_callS1 (st2 := [.int (bI (inR x (nI 0) (nI 127)))]) (w2 := MW X a ν σ τ) lk_Mod_within ln_Mod_114 (c_Mod_within X x (nI 0) (nI 127)) (by first | decide | omega) rfl rfl (Nat.le_of_ble_eq_true rfl) (Nat.le_of_ble_eq_true rfl) (Nat.le_of_ble_eq_true rfl) [] rfl rfl rfl rfl rfl 7 rfl d_Mod_feed_4 ?_
  refine r_if_neB 10 13 rfl rfl d_Mod_feed_7 (fun h7 => ?_) (fun h7 => ?_)
  · obtain ⟨xN, hxN, rfl⟩ := inR_t (by decide) h7
    have exN : cn (nI xN) = xN := cn_nI (by omega)
    have mxN : ¬ nI xN = -1 := m1n (by omega)
    refine r_aload_n rfl 14 rfl d_Mod_feed_13 ?_
    refine r_getf (v := .int (nI (ν 7))) gf_Mod_144 0 rfl rfl 17 rfl d_Mod_feed_14 ?_
    refine r_bipush (nI 100) rfl 19 rfl d_Mod_feed_17 ?_
    refine r_icmp_neN (ν 7) 100 (by omega) (by omega) 22 25 rfl rfl d_Mod_feed_19 (fun h19 => ?_) (fun h19 => ?_)
    · refine r_aload_n rfl 26 rfl d_Mod_feed_25 ?_
      refine r_getf (v := .ref (a 8)) gf_Mod_27 0 rfl rfl 29 rfl d_Mod_feed_26 ?_
      refine r_aload_n rfl 30 rfl d_Mod_feed_29 ?_
      refine r_dup rfl 31 rfl d_Mod_feed_30 ?_
      refine r_getf (v := .int (nI (ν 7))) gf_Mod_144 0 rfl rfl 34 rfl d_Mod_feed_31 ?_
      refine r_dup_x1 rfl rfl 35 rfl d_Mod_feed_34 ?_
      refine r_iconst (nI 1) rfl 36 rfl d_Mod_feed_35 ?_
      refine r_iadd 37 rfl d_Mod_feed_36 ?_
      refine r_topi (nI ((ν 7) + 1)) (nI_add _ _) ?_
      refine r_putf (w2 := MW X a (u1 ν 7 ((ν 7) + 1)) σ τ) pf_Mod_144 0 rfl (rfl) rfl (Nat.le_of_ble_eq_true rfl) rfl 40 rfl d_Mod_feed_37 ?_
      refine r_iload_n rfl 41 rfl d_Mod_feed_40 ?_
      refine r_iast (w2 := MW X a (u1 ν 7 ((ν 7) + 1)) (u2 σ 8 (upd (σ 8) (ν 7) (nI xN))) τ) 6 rfl (ν 7) rfl (by omega) (by omega) rfl 42 rfl d_Mod_feed_41 ?_
      refine r_aload_n rfl 43 rfl d_Mod_feed_42 ?_
      refine r_getf (v := .int (nI ((ν 7) + 1))) gf_Mod_144 0 rfl rfl 46 rfl d_Mod_feed_43 ?_
      exact r_iret rfl (Nat.zero_le _) (Nat.zero_le _) d_Mod_feed_46 (by rw [← hQ]; exact ⟨by simp [R_feed, b_feed, h7, exN, mxN, h19], by first | (simp [R_feed, b_feed, h7, exN, mxN, h19, u2_self, u1_self]; done) | (simp [R_feed, b_feed, h7, exN, mxN, h19, u2_self, u1_self]; rw [← h19, u1_self])⟩)
    · refine r_bipush ((-4)) rfl 24 rfl d_Mod_feed_22 ?_
      exact r_iret rfl (Nat.zero_le _) (Nat.zero_le _) d_Mod_feed_24 (by rw [← hQ]; exact ⟨by simp [R_feed, b_feed, h7, exN, mxN, h19], by first | (simp [R_feed, b_feed, h7, exN, mxN, h19, u2_self, u1_self]; done) | (simp [R_feed, b_feed, h7, exN, mxN, h19, u2_self, u1_self]; rw [← h19, u1_self])⟩)
  · refine r_bipush ((-2)) rfl 12 rfl d_Mod_feed_10 ?_
    exact r_iret rfl (Nat.zero_le _) (Nat.zero_le _) d_Mod_feed_12 (by rw [← hQ]; exact ⟨by simp [R_feed, b_feed, h7], by first | (simp [R_feed, b_feed, h7, u2_self, u1_self]; done) | (simp [R_feed, b_feed, h7, u2_self, u1_self]; rw [← h7, u1_self])⟩)
theorem c_Mod_pass (X : Xn) (a ν : Nat → Nat) (σ : Nat → Nat → Int32) (τ : Nat → Int64) (ht : ν 6 ≤ 9999) (x : Int32) : Does X 2 M_Mod_pass [.ref (a 0), .int x] (MW X a ν σ τ) 0 0 (fun (vv : Option Value) (ww : va_W) => vv = some (.int (R_pass (ν 6) x)) ∧ ww = MW X a (if b_pass (ν 6) x = true then u1 ν 6 (ν 6 + cn x) else ν) σ τ) := by
  generalize hQ : (fun (vv : Option Value) (ww : va_W) => vv = some (.int (R_pass (ν 6) x)) ∧ ww = MW X a (if b_pass (ν 6) x = true then u1 ν 6 (ν 6 + cn x) else ν) σ τ) = Q
  refine Does.go rfl (Nat.le_of_ble_eq_true rfl) [some (.ref (a 0)), some (.int x)] 0 rfl ?_
  refine r_iload_n rfl 1 rfl d_Mod_pass_0 ?_
  refine r_iconst (nI 0) rfl 2 rfl d_Mod_pass_1 ?_
  refine r_bipush (nI 60) rfl 4 rfl d_Mod_pass_2 ?_
  refine r_callS1 (st2 := [.int (bI (inR x (nI 0) (nI 60)))]) (w2 := MW X a ν σ τ) lk_Mod_within ln_Mod_114 (c_Mod_within X x (nI 0) (nI 60)) (by first | decide | omega) rfl rfl (Nat.le_of_ble_eq_true rfl) (Nat.le_of_ble_eq_true rfl) (Nat.le_of_ble_eq_true rfl) [] rfl rfl rfl rfl rfl 7 rfl d_Mod_pass_4 ?_
  refine r_if_neB 10 13 rfl rfl d_Mod_pass_7 (fun h7 => ?_) (fun h7 => ?_)
  · obtain ⟨xN, hxN, rfl⟩ := inR_t (by decide) h7
    have exN : cn (nI xN) = xN := cn_nI (by omega)
    have mxN : ¬ nI xN = -1 := m1n (by omega)
    refine r_aload_n rfl 14 rfl d_Mod_pass_13 ?_
    refine r_getf (v := .int (nI (ν 6))) gf_Mod_240 0 rfl rfl 17 rfl d_Mod_pass_14 ?_
    refine r_iload_n rfl 18 rfl d_Mod_pass_17 ?_
    refine r_iadd 19 rfl d_Mod_pass_18 ?_
    refine r_topi (nI ((ν 6) + xN)) (nI_add _ _) ?_
    refine r_sipush (nI 9999) rfl 22 rfl d_Mod_pass_19 ?_
    refine r_icmp_leN ((ν 6) + xN) 9999 (by omega) (by omega) 25 28 rfl rfl d_Mod_pass_22 (fun h22 => ?_) (fun h22 => ?_)
    · have n22 := Nat.not_lt.mpr h22
      refine r_aload_n rfl 29 rfl d_Mod_pass_28 ?_
      refine r_dup rfl 30 rfl d_Mod_pass_29 ?_
      refine r_getf (v := .int (nI (ν 6))) gf_Mod_240 0 rfl rfl 33 rfl d_Mod_pass_30 ?_
      refine r_iload_n rfl 34 rfl d_Mod_pass_33 ?_
      refine r_iadd 35 rfl d_Mod_pass_34 ?_
      refine r_topi (nI ((ν 6) + xN)) (nI_add _ _) ?_
      refine r_putf (w2 := MW X a (u1 ν 6 ((ν 6) + xN)) σ τ) pf_Mod_240 0 rfl (rfl) rfl (Nat.le_of_ble_eq_true rfl) rfl 38 rfl d_Mod_pass_35 ?_
      refine r_aload_n rfl 39 rfl d_Mod_pass_38 ?_
      refine r_getf (v := .int (nI ((ν 6) + xN))) gf_Mod_240 0 rfl rfl 42 rfl d_Mod_pass_39 ?_
      exact r_iret rfl (Nat.zero_le _) (Nat.zero_le _) d_Mod_pass_42 (by rw [← hQ]; exact ⟨by simp [R_pass, b_pass, h7, exN, mxN, h22, n22], by first | (simp [R_pass, b_pass, h7, exN, mxN, h22, n22, u2_self, u1_self]; done) | (simp [R_pass, b_pass, h7, exN, mxN, h22, n22, u2_self, u1_self]; rw [← n22, u1_self])⟩)
    · have n22 := Nat.not_le.mpr h22
      refine r_bipush ((-3)) rfl 27 rfl d_Mod_pass_25 ?_
      exact r_iret rfl (Nat.zero_le _) (Nat.zero_le _) d_Mod_pass_27 (by rw [← hQ]; exact ⟨by simp [R_pass, b_pass, h7, exN, mxN, h22, n22], by first | (simp [R_pass, b_pass, h7, exN, mxN, h22, n22, u2_self, u1_self]; done) | (simp [R_pass, b_pass, h7, exN, mxN, h22, n22, u2_self, u1_self]; rw [← n22, u1_self])⟩)
  · refine r_bipush ((-2)) rfl 12 rfl d_Mod_pass_10 ?_
    exact r_iret rfl (Nat.zero_le _) (Nat.zero_le _) d_Mod_pass_12 (by rw [← hQ]; exact ⟨by simp [R_pass, b_pass, h7], by first | (simp [R_pass, b_pass, h7, u2_self, u1_self]; done) | (simp [R_pass, b_pass, h7, u2_self, u1_self]; rw [← h7, u1_self])⟩)
theorem c_Mod_trader (X : Xn) (a ν : Nat → Nat) (σ : Nat → Nat → Int32) (τ : Nat → Int64) (hn6 : ν 0 ≤ 6) (hz4 : ∀ i, i < 4 → σ 4 (4 * ν 0 + i) = nI 0) (hz5 : ∀ q, q < 6 → σ 5 (6 * ν 0 + q) = nI 0 ∧ σ 5 (6 * q + ν 0) = nI 0) (k v : Int32) : Does X 2 M_Mod_trader [.ref (a 0), .int k, .int v] (MW X a ν σ τ) 0 0 (fun (vv : Option Value) (ww : va_W) => vv = some (.int (R_trader (ν 0) k v)) ∧ ww = MW X a (if b_trader (ν 0) k v = true then u1 ν 0 (ν 0 + 1) else ν) (if b_trader (ν 0) k v = true then u2 (u2 (u2 σ 1 (upd (σ 1) (ν 0) k)) 2 (upd (σ 2) (ν 0) v)) 3 (upd (σ 3) (ν 0) (nI 100)) else σ) τ) := by
  generalize hQ : (fun (vv : Option Value) (ww : va_W) => vv = some (.int (R_trader (ν 0) k v)) ∧ ww = MW X a (if b_trader (ν 0) k v = true then u1 ν 0 (ν 0 + 1) else ν) (if b_trader (ν 0) k v = true then u2 (u2 (u2 σ 1 (upd (σ 1) (ν 0) k)) 2 (upd (σ 2) (ν 0) v)) 3 (upd (σ 3) (ν 0) (nI 100)) else σ) τ) = Q
  refine Does.go rfl (Nat.le_of_ble_eq_true rfl) [some (.ref (a 0)), some (.int k), some (.int v), none, none] 2 rfl ?_
  refine r_iload_n rfl 1 rfl d_Mod_trader_0 ?_
  refine r_iconst (nI 0) rfl 2 rfl d_Mod_trader_1 ?_
  refine r_bipush (nI 6) rfl 4 rfl d_Mod_trader_2 ?_
  refine r_callS1 (st2 := [.int (bI (inR k (nI 0) (nI 6)))]) (w2 := MW X a ν σ τ) lk_Mod_within ln_Mod_114 (c_Mod_within X k (nI 0) (nI 6)) (by first | decide | omega) rfl rfl (Nat.le_of_ble_eq_true rfl) (Nat.le_of_ble_eq_true rfl) (Nat.le_of_ble_eq_true rfl) [] rfl rfl rfl rfl rfl 7 rfl d_Mod_trader_4 ?_
  refine r_if_neB 10 12 rfl rfl d_Mod_trader_7 (fun h7 => ?_) (fun h7 => ?_)
  · refine r_iload_n rfl 13 rfl d_Mod_trader_12 ?_
    refine r_iconst (nI 0) rfl 14 rfl d_Mod_trader_13 ?_
    refine r_bipush (nI 9) rfl 16 rfl d_Mod_trader_14 ?_
    refine r_callS1 (st2 := [.int (bI (inR v (nI 0) (nI 9)))]) (w2 := MW X a ν σ τ) lk_Mod_within ln_Mod_114 (c_Mod_within X v (nI 0) (nI 9)) (by first | decide | omega) rfl rfl (Nat.le_of_ble_eq_true rfl) (Nat.le_of_ble_eq_true rfl) (Nat.le_of_ble_eq_true rfl) [] rfl rfl rfl rfl rfl 19 rfl d_Mod_trader_16 ?_
    refine r_if_neB 22 25 rfl rfl d_Mod_trader_19 (fun h19 => ?_) (fun h19 => ?_)
    · refine r_aload_n rfl 26 rfl d_Mod_trader_25 ?_
      refine r_getf (v := .int (nI (ν 0))) gf_Mod_111 0 rfl rfl 29 rfl d_Mod_trader_26 ?_
      refine r_bipush (nI 6) rfl 31 rfl d_Mod_trader_29 ?_
      refine r_icmp_neN (ν 0) 6 (by omega) (by omega) 34 37 rfl rfl d_Mod_trader_31 (fun h31 => ?_) (fun h31 => ?_)
      · refine r_aload_n rfl 38 rfl d_Mod_trader_37 ?_
        refine r_getf (v := .int (nI (ν 0))) gf_Mod_111 0 rfl rfl 41 rfl d_Mod_trader_38 ?_
        refine r_istore_n (ls2 := [some (.ref (a 0)), some (.int k), some (.int v), some (.int (nI (ν 0))), none]) 42 rfl d_Mod_trader_41 (by decide) rfl rfl ?_
        refine r_aload_n rfl 43 rfl d_Mod_trader_42 ?_
        refine r_getf (v := .ref (a 1)) gf_Mod_9 0 rfl rfl 46 rfl d_Mod_trader_43 ?_
        refine r_iload_n rfl 47 rfl d_Mod_trader_46 ?_
        refine r_iload_n rfl 48 rfl d_Mod_trader_47 ?_
        refine r_iast (w2 := MW X a ν (u2 σ 1 (upd (σ 1) (ν 0) k)) τ) 1 rfl (ν 0) rfl (by omega) (by omega) rfl 49 rfl d_Mod_trader_48 ?_
        refine r_aload_n rfl 50 rfl d_Mod_trader_49 ?_
        refine r_getf (v := .ref (a 2)) gf_Mod_15 0 rfl rfl 53 rfl d_Mod_trader_50 ?_
        refine r_iload_n rfl 54 rfl d_Mod_trader_53 ?_
        refine r_iload_n rfl 55 rfl d_Mod_trader_54 ?_
        refine r_iast (w2 := MW X a ν (u2 (u2 σ 1 (upd (σ 1) (ν 0) k)) 2 (upd (σ 2) (ν 0) v)) τ) 2 rfl (ν 0) rfl (by omega) (by omega) rfl 56 rfl d_Mod_trader_55 ?_
        refine r_aload_n rfl 57 rfl d_Mod_trader_56 ?_
        refine r_getf (v := .ref (a 3)) gf_Mod_18 0 rfl rfl 60 rfl d_Mod_trader_57 ?_
        refine r_iload_n rfl 61 rfl d_Mod_trader_60 ?_
        refine r_bipush (nI 100) rfl 63 rfl d_Mod_trader_61 ?_
        refine r_iast (w2 := MW X a ν (u2 (u2 (u2 σ 1 (upd (σ 1) (ν 0) k)) 2 (upd (σ 2) (ν 0) v)) 3 (upd (σ 3) (ν 0) (nI 100))) τ) 3 rfl (ν 0) rfl (by omega) (by omega) rfl 64 rfl d_Mod_trader_63 ?_
        refine r_iconst (nI 0) rfl 65 rfl d_Mod_trader_64 ?_
        refine r_istore (ls2 := [some (.ref (a 0)), some (.int k), some (.int v), some (.int (nI (ν 0))), some (.int (nI 0))]) 67 rfl d_Mod_trader_65 (by decide) rfl rfl ?_
        have L67_1 : ∀ (f : Nat) (i : Nat), (i ≤ 4) → 4 - i < f → Runs X 2 M_Mod_trader 0 0 Q 67 [some (.ref (a 0)), some (.int k), some (.int v), some (.int (nI (ν 0))), some (.int (nI i))] [] 0 0 (MW X a ν (u2 (u2 (u2 σ 1 (upd (σ 1) (ν 0) k)) 2 (upd (σ 2) (ν 0) v)) 3 (upd (σ 3) (ν 0) (nI 100))) τ) := by
          intro f
          induction f with
          | zero => intro i hi hmu; exact absurd hmu (Nat.not_lt_zero _)
          | succ f ih2 =>
            intro i hi hmu
            refine r_iload rfl 69 rfl d_Mod_trader_67 ?_
            refine r_iconst (nI 4) rfl 70 rfl d_Mod_trader_69 ?_
            refine r_icmp_geN i 4 (by omega) (by omega) 73 91 rfl rfl d_Mod_trader_70 (fun h70 => ?_) (fun h70 => ?_)
            · have n70 := Nat.not_lt.mpr h70
              refine r_iconst (nI 0) rfl 92 rfl d_Mod_trader_91 ?_
              refine r_istore (ls2 := [some (.ref (a 0)), some (.int k), some (.int v), some (.int (nI (ν 0))), some (.int (nI 0))]) 94 rfl d_Mod_trader_92 (by decide) rfl rfl ?_
              have L94_3 : ∀ (f : Nat) (q : Nat), (q ≤ 6) → 6 - q < f → Runs X 2 M_Mod_trader 0 0 Q 94 [some (.ref (a 0)), some (.int k), some (.int v), some (.int (nI (ν 0))), some (.int (nI q))] [] 0 0 (MW X a ν (u2 (u2 (u2 σ 1 (upd (σ 1) (ν 0) k)) 2 (upd (σ 2) (ν 0) v)) 3 (upd (σ 3) (ν 0) (nI 100))) τ) := by
                intro f
                induction f with
                | zero => intro q hq hmu; exact absurd hmu (Nat.not_lt_zero _)
                | succ f ih4 =>
                  intro q hq hmu
                  refine r_iload rfl 96 rfl d_Mod_trader_94 ?_
                  refine r_bipush (nI 6) rfl 98 rfl d_Mod_trader_96 ?_
                  refine r_icmp_geN q 6 (by omega) (by omega) 101 133 rfl rfl d_Mod_trader_98 (fun h98 => ?_) (fun h98 => ?_)
                  · have n98 := Nat.not_lt.mpr h98
                    refine r_aload_n rfl 134 rfl d_Mod_trader_133 ?_
                    refine r_dup rfl 135 rfl d_Mod_trader_134 ?_
                    refine r_getf (v := .int (nI (ν 0))) gf_Mod_111 0 rfl rfl 138 rfl d_Mod_trader_135 ?_
                    refine r_dup_x1 rfl rfl 139 rfl d_Mod_trader_138 ?_
                    refine r_iconst (nI 1) rfl 140 rfl d_Mod_trader_139 ?_
                    refine r_iadd 141 rfl d_Mod_trader_140 ?_
                    refine r_topi (nI ((ν 0) + 1)) (nI_add _ _) ?_
                    refine r_putf (w2 := MW X a (u1 ν 0 ((ν 0) + 1)) (u2 (u2 (u2 σ 1 (upd (σ 1) (ν 0) k)) 2 (upd (σ 2) (ν 0) v)) 3 (upd (σ 3) (ν 0) (nI 100))) τ) pf_Mod_111 0 rfl (rfl) rfl (Nat.le_of_ble_eq_true rfl) rfl 144 rfl d_Mod_trader_141 ?_
                    exact r_iret rfl (Nat.zero_le _) (Nat.zero_le _) d_Mod_trader_144 (by rw [← hQ]; exact ⟨by simp [R_trader, b_trader, h7, h19, h31, hi, h70, n70, hq, h98, n98], by first | (simp [R_trader, b_trader, h7, h19, h31, hi, h70, n70, hq, h98, n98, u2_self, u1_self]; done) | (simp [R_trader, b_trader, h7, h19, h31, hi, h70, n70, hq, h98, n98, u2_self, u1_self]; rw [← n98, u1_self])⟩)
                  · have n98 := Nat.not_le.mpr h98
                    refine r_aload_n rfl 102 rfl d_Mod_trader_101 ?_
                    refine r_getf (v := .ref (a 5)) gf_Mod_24 0 rfl rfl 105 rfl d_Mod_trader_102 ?_
                    refine r_bipush (nI 6) rfl 107 rfl d_Mod_trader_105 ?_
                    refine r_iload_n rfl 108 rfl d_Mod_trader_107 ?_
                    refine r_imul 109 rfl d_Mod_trader_108 ?_
                    refine r_topi (nI (6 * (ν 0))) (pk_mul _ _) ?_
                    refine r_iload rfl 111 rfl d_Mod_trader_109 ?_
                    refine r_iadd 112 rfl d_Mod_trader_111 ?_
                    refine r_topi (nI ((6 * (ν 0)) + q)) (nI_add _ _) ?_
                    refine r_iconst (nI 0) rfl 113 rfl d_Mod_trader_112 ?_
                    refine r_iast (w2 := MW X a ν (u2 (u2 (u2 (u2 σ 1 (upd (σ 1) (ν 0) k)) 2 (upd (σ 2) (ν 0) v)) 3 (upd (σ 3) (ν 0) (nI 100))) 5 (upd (σ 5) ((6 * (ν 0)) + q) (nI 0))) τ) 5 rfl ((6 * (ν 0)) + q) rfl (by omega) (by omega) rfl 114 rfl d_Mod_trader_113 ?_
                    refine r_aload_n rfl 115 rfl d_Mod_trader_114 ?_
                    refine r_getf (v := .ref (a 5)) gf_Mod_24 0 rfl rfl 118 rfl d_Mod_trader_115 ?_
                    refine r_bipush (nI 6) rfl 120 rfl d_Mod_trader_118 ?_
                    refine r_iload rfl 122 rfl d_Mod_trader_120 ?_
                    refine r_imul 123 rfl d_Mod_trader_122 ?_
                    refine r_topi (nI (6 * q)) (pk_mul _ _) ?_
                    refine r_iload_n rfl 124 rfl d_Mod_trader_123 ?_
                    refine r_iadd 125 rfl d_Mod_trader_124 ?_
                    refine r_topi (nI ((6 * q) + (ν 0))) (nI_add _ _) ?_
                    refine r_iconst (nI 0) rfl 126 rfl d_Mod_trader_125 ?_
                    refine r_iast (w2 := MW X a ν (u2 (u2 (u2 (u2 (u2 σ 1 (upd (σ 1) (ν 0) k)) 2 (upd (σ 2) (ν 0) v)) 3 (upd (σ 3) (ν 0) (nI 100))) 5 (upd (σ 5) ((6 * (ν 0)) + q) (nI 0))) 5 (upd (upd (σ 5) ((6 * (ν 0)) + q) (nI 0)) ((6 * q) + (ν 0)) (nI 0))) τ) 5 rfl ((6 * q) + (ν 0)) rfl (by omega) (by omega) rfl 127 rfl d_Mod_trader_126 ?_
                    refine r_iinc (ls2 := [some (.ref (a 0)), some (.int k), some (.int v), some (.int (nI (ν 0))), some (.int (nI (q + 1)))]) (nI (q + 1)) rfl (nI_1 _) 130 rfl d_Mod_trader_127 (by decide) rfl rfl ?_
                    refine r_goto 94 rfl d_Mod_trader_130 ?_
                    refine Runs.cast (ih4 (q + 1) (by omega) (by omega)) (rfl) rfl (by rw [u2_u2, upd_same (hz5 q (by omega)).1, upd_same (hz5 q (by omega)).2]; exact congrArg (fun z => MW X a ν z τ) (u2_self (σ := u2 (u2 (u2 σ 1 (upd (σ 1) (ν 0) k)) 2 (upd (σ 2) (ν 0) v)) 3 (upd (σ 3) (ν 0) (nI 100))) (k := 5)); try rfl)
              exact L94_3 _ 0 (Nat.zero_le _) (Nat.lt_succ_self _)
            · have n70 := Nat.not_le.mpr h70
              refine r_aload_n rfl 74 rfl d_Mod_trader_73 ?_
              refine r_getf (v := .ref (a 4)) gf_Mod_21 0 rfl rfl 77 rfl d_Mod_trader_74 ?_
              refine r_iconst (nI 4) rfl 78 rfl d_Mod_trader_77 ?_
              refine r_iload_n rfl 79 rfl d_Mod_trader_78 ?_
              refine r_imul 80 rfl d_Mod_trader_79 ?_
              refine r_topi (nI (4 * (ν 0))) (pk_mul _ _) ?_
              refine r_iload rfl 82 rfl d_Mod_trader_80 ?_
              refine r_iadd 83 rfl d_Mod_trader_82 ?_
              refine r_topi (nI ((4 * (ν 0)) + i)) (nI_add _ _) ?_
              refine r_iconst (nI 0) rfl 84 rfl d_Mod_trader_83 ?_
              refine r_iast (w2 := MW X a ν (u2 (u2 (u2 (u2 σ 1 (upd (σ 1) (ν 0) k)) 2 (upd (σ 2) (ν 0) v)) 3 (upd (σ 3) (ν 0) (nI 100))) 4 (upd (σ 4) ((4 * (ν 0)) + i) (nI 0))) τ) 4 rfl ((4 * (ν 0)) + i) rfl (by omega) (by omega) rfl 85 rfl d_Mod_trader_84 ?_
              refine r_iinc (ls2 := [some (.ref (a 0)), some (.int k), some (.int v), some (.int (nI (ν 0))), some (.int (nI (i + 1)))]) (nI (i + 1)) rfl (nI_1 _) 88 rfl d_Mod_trader_85 (by decide) rfl rfl ?_
              refine r_goto 67 rfl d_Mod_trader_88 ?_
              refine Runs.cast (ih2 (i + 1) (by omega) (by omega)) (rfl) rfl (by rw [upd_same (hz4 i (by omega))]; exact congrArg (fun z => MW X a ν z τ) (u2_self (σ := u2 (u2 (u2 σ 1 (upd (σ 1) (ν 0) k)) 2 (upd (σ 2) (ν 0) v)) 3 (upd (σ 3) (ν 0) (nI 100))) (k := 4)); try rfl)
        exact L67_1 _ 0 (Nat.zero_le _) (Nat.lt_succ_self _)
      · refine r_bipush ((-4)) rfl 36 rfl d_Mod_trader_34 ?_
        exact r_iret rfl (Nat.zero_le _) (Nat.zero_le _) d_Mod_trader_36 (by rw [← hQ]; exact ⟨by simp [R_trader, b_trader, h7, h19, h31], by first | (simp [R_trader, b_trader, h7, h19, h31, u2_self, u1_self]; done) | (simp [R_trader, b_trader, h7, h19, h31, u2_self, u1_self]; rw [← h31, u1_self])⟩)
    · refine r_bipush ((-2)) rfl 24 rfl d_Mod_trader_22 ?_
      exact r_iret rfl (Nat.zero_le _) (Nat.zero_le _) d_Mod_trader_24 (by rw [← hQ]; exact ⟨by simp [R_trader, b_trader, h7, h19], by first | (simp [R_trader, b_trader, h7, h19, u2_self, u1_self]; done) | (simp [R_trader, b_trader, h7, h19, u2_self, u1_self]; rw [← h19, u1_self])⟩)
  · refine r_iconst ((-1)) rfl 11 rfl d_Mod_trader_10 ?_
    exact r_iret rfl (Nat.zero_le _) (Nat.zero_le _) d_Mod_trader_11 (by rw [← hQ]; exact ⟨by simp [R_trader, b_trader, h7], by first | (simp [R_trader, b_trader, h7, u2_self, u1_self]; done) | (simp [R_trader, b_trader, h7, u2_self, u1_self]; rw [← h7, u1_self])⟩)
theorem c_Mod_see (X : Xn) (a ν : Nat → Nat) (σ : Nat → Nat → Int32) (τ : Nat → Int64) (hn6 : ν 0 ≤ 6) (hs5 : ν 23 ≤ 5) (p q s x y : Int32) : Does X 4 M_Mod_see [.ref (a 0), .int p, .int q, .int s, .int x, .int y] (MW X a ν σ τ) 0 0 (fun (vv : Option Value) (ww : va_W) => vv = some (.int (R_see (ν 0) (ν 23) p q s x y)) ∧ ww = MW X a (u1 ν 23 (N_see (ν 0) (ν 23) p q s x y)) (if b_see (ν 0) (ν 23) p q s x y = true then u2 (u2 (u2 (u2 (u2 (σ) 24 (upd (σ 24) (ν 23) p)) 25 (upd (σ 25) (ν 23) q)) 26 (upd (σ 26) (ν 23) s)) 27 (upd (σ 27) (ν 23) x)) 28 (upd (σ 28) (ν 23) y) else σ) τ) := by
  generalize hQ : (fun (vv : Option Value) (ww : va_W) => vv = some (.int (R_see (ν 0) (ν 23) p q s x y)) ∧ ww = MW X a (u1 ν 23 (N_see (ν 0) (ν 23) p q s x y)) (if b_see (ν 0) (ν 23) p q s x y = true then u2 (u2 (u2 (u2 (u2 (σ) 24 (upd (σ 24) (ν 23) p)) 25 (upd (σ 25) (ν 23) q)) 26 (upd (σ 26) (ν 23) s)) 27 (upd (σ 27) (ν 23) x)) 28 (upd (σ 28) (ν 23) y) else σ) τ) = Q
  refine Does.go rfl (Nat.le_of_ble_eq_true rfl) [some (.ref (a 0)), some (.int p), some (.int q), some (.int s), some (.int x), some (.int y)] 0 rfl ?_
  refine r_iload_n rfl 1 rfl d_Mod_see_0 ?_
  refine r_iconst ((-1)) rfl 2 rfl d_Mod_see_1 ?_
  refine r_icmp_ne 5 12 rfl rfl d_Mod_see_2 (fun h2 => ?_) (fun h2 => ?_)
  · refine r_aload_n rfl 13 rfl d_Mod_see_12 ?_
    refine r_iload_n rfl 14 rfl d_Mod_see_13 ?_
    refine r_iload_n rfl 15 rfl d_Mod_see_14 ?_
    refine r_callVA1 (st2 := [.int (bI (isB (ν 0) p && isB (ν 0) q))]) (w2 := MW X a ν σ τ) lk_Mod_are ln_Mod_140 (c_Mod_are X a ν σ τ p q) (by first | decide | omega) rfl rfl (Nat.le_of_ble_eq_true rfl) (Nat.le_of_ble_eq_true rfl) (Nat.le_of_ble_eq_true rfl) 0 rfl rfl rfl rfl 18 rfl d_Mod_see_15 ?_
    refine r_if_neB 21 23 rfl rfl d_Mod_see_18 (fun h18 => ?_) (fun h18 => ?_)
    · obtain ⟨pN, qN, hpN, hqN, rfl, rfl⟩ := are_t hn6 h18
      have epN : cn (nI pN) = pN := cn_nI (by omega)
      have mpN : ¬ nI pN = -1 := m1n (by omega)
      have eqN : cn (nI qN) = qN := cn_nI (by omega)
      have mqN : ¬ nI qN = -1 := m1n (by omega)
      have bpN := isB_of hn6 hpN
      have bqN := isB_of hn6 hqN
      have epq : (nI pN = nI qN) = (pN = qN) := propext (nI_eq (by omega) (by omega))
      refine r_iload_n rfl 24 rfl d_Mod_see_23 ?_
      refine r_iload_n rfl 25 rfl d_Mod_see_24 ?_
      refine r_icmp_eqN pN qN (by omega) (by omega) 28 58 rfl rfl d_Mod_see_25 (fun h25 => ?_) (fun h25 => ?_)
      · refine r_bipush ((-2)) rfl 60 rfl d_Mod_see_58 ?_
        exact r_iret rfl (Nat.zero_le _) (Nat.zero_le _) d_Mod_see_60 (by rw [← hQ]; exact ⟨by simp [R_see, b_see, N_see, h2, h18, epN, mpN, eqN, mqN, bpN, bqN, epq, h25], by first | (simp [R_see, b_see, N_see, h2, h18, epN, mpN, eqN, mqN, bpN, bqN, epq, h25, u2_self, u1_self]; done) | (simp [R_see, b_see, N_see, h2, h18, epN, mpN, eqN, mqN, bpN, bqN, epq, h25, u2_self, u1_self]; rw [← h25, u1_self])⟩)
      · refine r_iload_n rfl 29 rfl d_Mod_see_28 ?_
        refine r_callS1 (st2 := [.int (bI (inR s (nI 0) (nI 99)))]) (w2 := MW X a ν σ τ) lk_Mod_isSqueeze ln_Mod_237 (c_Mod_isSqueeze X s) (by first | decide | omega) rfl rfl (Nat.le_of_ble_eq_true rfl) (Nat.le_of_ble_eq_true rfl) (Nat.le_of_ble_eq_true rfl) [] rfl rfl rfl rfl rfl 32 rfl d_Mod_see_29 ?_
        refine r_if_eqB 35 58 rfl rfl d_Mod_see_32 (fun h32 => ?_) (fun h32 => ?_)
        · refine r_bipush ((-2)) rfl 60 rfl d_Mod_see_58 ?_
          exact r_iret rfl (Nat.zero_le _) (Nat.zero_le _) d_Mod_see_60 (by rw [← hQ]; exact ⟨by simp [R_see, b_see, N_see, h2, h18, epN, mpN, eqN, mqN, bpN, bqN, epq, h25, h32], by first | (simp [R_see, b_see, N_see, h2, h18, epN, mpN, eqN, mqN, bpN, bqN, epq, h25, h32, u2_self, u1_self]; done) | (simp [R_see, b_see, N_see, h2, h18, epN, mpN, eqN, mqN, bpN, bqN, epq, h25, h32, u2_self, u1_self]; rw [← h32, u1_self])⟩)
        · obtain ⟨sN, hsN, rfl⟩ := inR_t (by decide) h32
          have esN : cn (nI sN) = sN := cn_nI (by omega)
          have msN : ¬ nI sN = -1 := m1n (by omega)
          refine r_iload rfl 37 rfl d_Mod_see_35 ?_
          refine r_iconst (nI 0) rfl 38 rfl d_Mod_see_37 ?_
          refine r_bipush (nI 20) rfl 40 rfl d_Mod_see_38 ?_
          refine r_callS1 (st2 := [.int (bI (inR x (nI 0) (nI 20)))]) (w2 := MW X a ν σ τ) lk_Mod_within ln_Mod_114 (c_Mod_within X x (nI 0) (nI 20)) (by first | decide | omega) rfl rfl (Nat.le_of_ble_eq_true rfl) (Nat.le_of_ble_eq_true rfl) (Nat.le_of_ble_eq_true rfl) [] rfl rfl rfl rfl rfl 43 rfl d_Mod_see_40 ?_
          refine r_if_eqB 46 58 rfl rfl d_Mod_see_43 (fun h43 => ?_) (fun h43 => ?_)
          · refine r_bipush ((-2)) rfl 60 rfl d_Mod_see_58 ?_
            exact r_iret rfl (Nat.zero_le _) (Nat.zero_le _) d_Mod_see_60 (by rw [← hQ]; exact ⟨by simp [R_see, b_see, N_see, h2, h18, epN, mpN, eqN, mqN, bpN, bqN, epq, h25, h32, esN, msN, h43], by first | (simp [R_see, b_see, N_see, h2, h18, epN, mpN, eqN, mqN, bpN, bqN, epq, h25, h32, esN, msN, h43, u2_self, u1_self]; done) | (simp [R_see, b_see, N_see, h2, h18, epN, mpN, eqN, mqN, bpN, bqN, epq, h25, h32, esN, msN, h43, u2_self, u1_self]; rw [← h43, u1_self])⟩)
          · obtain ⟨xN, hxN, rfl⟩ := inR_t (by decide) h43
            have exN : cn (nI xN) = xN := cn_nI (by omega)
            have mxN : ¬ nI xN = -1 := m1n (by omega)
            refine r_iload rfl 48 rfl d_Mod_see_46 ?_
            refine r_iconst (nI 0) rfl 49 rfl d_Mod_see_48 ?_
            refine r_sipush (nI 999) rfl 52 rfl d_Mod_see_49 ?_
            refine r_callS1 (st2 := [.int (bI (inR y (nI 0) (nI 999)))]) (w2 := MW X a ν σ τ) lk_Mod_within ln_Mod_114 (c_Mod_within X y (nI 0) (nI 999)) (by first | decide | omega) rfl rfl (Nat.le_of_ble_eq_true rfl) (Nat.le_of_ble_eq_true rfl) (Nat.le_of_ble_eq_true rfl) [] rfl rfl rfl rfl rfl 55 rfl d_Mod_see_52 ?_
            refine r_if_neB 58 61 rfl rfl d_Mod_see_55 (fun h55 => ?_) (fun h55 => ?_)
            · obtain ⟨yN, hyN, rfl⟩ := inR_t (by decide) h55
              have eyN : cn (nI yN) = yN := cn_nI (by omega)
              have myN : ¬ nI yN = -1 := m1n (by omega)
              refine r_aload_n rfl 62 rfl d_Mod_see_61 ?_
              refine r_getf (v := .int (nI (ν 23))) gf_Mod_297 0 rfl rfl 65 rfl d_Mod_see_62 ?_
              refine r_iconst (nI 5) rfl 66 rfl d_Mod_see_65 ?_
              refine r_icmp_neN (ν 23) 5 (by omega) (by omega) 69 72 rfl rfl d_Mod_see_66 (fun h66 => ?_) (fun h66 => ?_)
              · refine r_aload_n rfl 73 rfl d_Mod_see_72 ?_
                refine r_getf (v := .ref (a 24)) gf_Mod_52 0 rfl rfl 76 rfl d_Mod_see_73 ?_
                refine r_aload_n rfl 77 rfl d_Mod_see_76 ?_
                refine r_getf (v := .int (nI (ν 23))) gf_Mod_297 0 rfl rfl 80 rfl d_Mod_see_77 ?_
                refine r_iload_n rfl 81 rfl d_Mod_see_80 ?_
                refine r_iast (w2 := MW X a ν (u2 σ 24 (upd (σ 24) (ν 23) (nI pN))) τ) 14 rfl (ν 23) rfl (by omega) (by omega) rfl 82 rfl d_Mod_see_81 ?_
                refine r_aload_n rfl 83 rfl d_Mod_see_82 ?_
                refine r_getf (v := .ref (a 25)) gf_Mod_55 0 rfl rfl 86 rfl d_Mod_see_83 ?_
                refine r_aload_n rfl 87 rfl d_Mod_see_86 ?_
                refine r_getf (v := .int (nI (ν 23))) gf_Mod_297 0 rfl rfl 90 rfl d_Mod_see_87 ?_
                refine r_iload_n rfl 91 rfl d_Mod_see_90 ?_
                refine r_iast (w2 := MW X a ν (u2 (u2 σ 24 (upd (σ 24) (ν 23) (nI pN))) 25 (upd (σ 25) (ν 23) (nI qN))) τ) 15 rfl (ν 23) rfl (by omega) (by omega) rfl 92 rfl d_Mod_see_91 ?_
                refine r_aload_n rfl 93 rfl d_Mod_see_92 ?_
                refine r_getf (v := .ref (a 26)) gf_Mod_58 0 rfl rfl 96 rfl d_Mod_see_93 ?_
                refine r_aload_n rfl 97 rfl d_Mod_see_96 ?_
                refine r_getf (v := .int (nI (ν 23))) gf_Mod_297 0 rfl rfl 100 rfl d_Mod_see_97 ?_
                refine r_iload_n rfl 101 rfl d_Mod_see_100 ?_
                refine r_iast (w2 := MW X a ν (u2 (u2 (u2 σ 24 (upd (σ 24) (ν 23) (nI pN))) 25 (upd (σ 25) (ν 23) (nI qN))) 26 (upd (σ 26) (ν 23) (nI sN))) τ) 16 rfl (ν 23) rfl (by omega) (by omega) rfl 102 rfl d_Mod_see_101 ?_
                refine r_aload_n rfl 103 rfl d_Mod_see_102 ?_
                refine r_getf (v := .ref (a 27)) gf_Mod_61 0 rfl rfl 106 rfl d_Mod_see_103 ?_
                refine r_aload_n rfl 107 rfl d_Mod_see_106 ?_
                refine r_getf (v := .int (nI (ν 23))) gf_Mod_297 0 rfl rfl 110 rfl d_Mod_see_107 ?_
                refine r_iload rfl 112 rfl d_Mod_see_110 ?_
                refine r_iast (w2 := MW X a ν (u2 (u2 (u2 (u2 σ 24 (upd (σ 24) (ν 23) (nI pN))) 25 (upd (σ 25) (ν 23) (nI qN))) 26 (upd (σ 26) (ν 23) (nI sN))) 27 (upd (σ 27) (ν 23) (nI xN))) τ) 17 rfl (ν 23) rfl (by omega) (by omega) rfl 113 rfl d_Mod_see_112 ?_
                refine r_aload_n rfl 114 rfl d_Mod_see_113 ?_
                refine r_getf (v := .ref (a 28)) gf_Mod_64 0 rfl rfl 117 rfl d_Mod_see_114 ?_
                refine r_aload_n rfl 118 rfl d_Mod_see_117 ?_
                refine r_dup rfl 119 rfl d_Mod_see_118 ?_
                refine r_getf (v := .int (nI (ν 23))) gf_Mod_297 0 rfl rfl 122 rfl d_Mod_see_119 ?_
                refine r_dup_x1 rfl rfl 123 rfl d_Mod_see_122 ?_
                refine r_iconst (nI 1) rfl 124 rfl d_Mod_see_123 ?_
                refine r_iadd 125 rfl d_Mod_see_124 ?_
                refine r_topi (nI ((ν 23) + 1)) (nI_add _ _) ?_
                refine r_putf (w2 := MW X a (u1 ν 23 ((ν 23) + 1)) (u2 (u2 (u2 (u2 σ 24 (upd (σ 24) (ν 23) (nI pN))) 25 (upd (σ 25) (ν 23) (nI qN))) 26 (upd (σ 26) (ν 23) (nI sN))) 27 (upd (σ 27) (ν 23) (nI xN))) τ) pf_Mod_297 0 rfl (rfl) rfl (Nat.le_of_ble_eq_true rfl) rfl 128 rfl d_Mod_see_125 ?_
                refine r_iload rfl 130 rfl d_Mod_see_128 ?_
                refine r_iast (w2 := MW X a (u1 ν 23 ((ν 23) + 1)) (u2 (u2 (u2 (u2 (u2 σ 24 (upd (σ 24) (ν 23) (nI pN))) 25 (upd (σ 25) (ν 23) (nI qN))) 26 (upd (σ 26) (ν 23) (nI sN))) 27 (upd (σ 27) (ν 23) (nI xN))) 28 (upd (σ 28) (ν 23) (nI yN))) τ) 18 rfl (ν 23) rfl (by omega) (by omega) rfl 131 rfl d_Mod_see_130 ?_
                refine r_aload_n rfl 132 rfl d_Mod_see_131 ?_
                refine r_getf (v := .int (nI ((ν 23) + 1))) gf_Mod_297 0 rfl rfl 135 rfl d_Mod_see_132 ?_
                exact r_iret rfl (Nat.zero_le _) (Nat.zero_le _) d_Mod_see_135 (by rw [← hQ]; exact ⟨by simp [R_see, b_see, N_see, h2, h18, epN, mpN, eqN, mqN, bpN, bqN, epq, h25, h32, esN, msN, h43, exN, mxN, h55, eyN, myN, h66], by first | (simp [R_see, b_see, N_see, h2, h18, epN, mpN, eqN, mqN, bpN, bqN, epq, h25, h32, esN, msN, h43, exN, mxN, h55, eyN, myN, h66, u2_self, u1_self]; done) | (simp [R_see, b_see, N_see, h2, h18, epN, mpN, eqN, mqN, bpN, bqN, epq, h25, h32, esN, msN, h43, exN, mxN, h55, eyN, myN, h66, u2_self, u1_self]; rw [← h66, u1_self])⟩)
              · refine r_bipush ((-4)) rfl 71 rfl d_Mod_see_69 ?_
                exact r_iret rfl (Nat.zero_le _) (Nat.zero_le _) d_Mod_see_71 (by rw [← hQ]; exact ⟨by simp [R_see, b_see, N_see, h2, h18, epN, mpN, eqN, mqN, bpN, bqN, epq, h25, h32, esN, msN, h43, exN, mxN, h55, eyN, myN, h66], by first | (simp [R_see, b_see, N_see, h2, h18, epN, mpN, eqN, mqN, bpN, bqN, epq, h25, h32, esN, msN, h43, exN, mxN, h55, eyN, myN, h66, u2_self, u1_self]; done) | (simp [R_see, b_see, N_see, h2, h18, epN, mpN, eqN, mqN, bpN, bqN, epq, h25, h32, esN, msN, h43, exN, mxN, h55, eyN, myN, h66, u2_self, u1_self]; rw [← h66, u1_self])⟩)
            · refine r_bipush ((-2)) rfl 60 rfl d_Mod_see_58 ?_
              exact r_iret rfl (Nat.zero_le _) (Nat.zero_le _) d_Mod_see_60 (by rw [← hQ]; exact ⟨by simp [R_see, b_see, N_see, h2, h18, epN, mpN, eqN, mqN, bpN, bqN, epq, h25, h32, esN, msN, h43, exN, mxN, h55], by first | (simp [R_see, b_see, N_see, h2, h18, epN, mpN, eqN, mqN, bpN, bqN, epq, h25, h32, esN, msN, h43, exN, mxN, h55, u2_self, u1_self]; done) | (simp [R_see, b_see, N_see, h2, h18, epN, mpN, eqN, mqN, bpN, bqN, epq, h25, h32, esN, msN, h43, exN, mxN, h55, u2_self, u1_self]; rw [← h55, u1_self])⟩)
    · refine r_iconst ((-1)) rfl 22 rfl d_Mod_see_21 ?_
      exact r_iret rfl (Nat.zero_le _) (Nat.zero_le _) d_Mod_see_22 (by rw [← hQ]; exact ⟨by simp [R_see, b_see, N_see, h2, h18], by first | (simp [R_see, b_see, N_see, h2, h18, u2_self, u1_self]; done) | (simp [R_see, b_see, N_see, h2, h18, u2_self, u1_self]; rw [← h18, u1_self])⟩)
  · refine r_aload_n rfl 6 rfl d_Mod_see_5 ?_
    refine r_iconst (nI 0) rfl 7 rfl d_Mod_see_6 ?_
    refine r_putf (w2 := MW X a (u1 ν 23 0) σ τ) pf_Mod_297 0 rfl (rfl) rfl (Nat.le_of_ble_eq_true rfl) rfl 10 rfl d_Mod_see_7 ?_
    refine r_iconst (nI 0) rfl 11 rfl d_Mod_see_10 ?_
    exact r_iret rfl (Nat.zero_le _) (Nat.zero_le _) d_Mod_see_11 (by rw [← hQ]; exact ⟨by simp [R_see, b_see, N_see, h2], by first | (simp [R_see, b_see, N_see, h2, u2_self, u1_self]; done) | (simp [R_see, b_see, N_see, h2, u2_self, u1_self]; rw [← h2, u1_self])⟩)
theorem c_Mod_book (X : Xn) (a ν : Nat → Nat) (σ : Nat → Nat → Int32) (τ : Nat → Int64) (hn6 : ν 0 ≤ 6) (hs8 : ν 32 ≤ 8) (p q x : Int32) : Does X 4 M_Mod_book [.ref (a 0), .int p, .int q, .int x] (MW X a ν σ τ) 0 0 (fun (vv : Option Value) (ww : va_W) => vv = some (.int (R_book (ν 0) (ν 32) p q x)) ∧ ww = MW X a (u1 ν 32 (N_book (ν 0) (ν 32) p q x)) (if b_book (ν 0) (ν 32) p q x = true then u2 (u2 (u2 (σ) 33 (upd (σ 33) (ν 32) p)) 34 (upd (σ 34) (ν 32) q)) 35 (upd (σ 35) (ν 32) x) else σ) τ) := by
  generalize hQ : (fun (vv : Option Value) (ww : va_W) => vv = some (.int (R_book (ν 0) (ν 32) p q x)) ∧ ww = MW X a (u1 ν 32 (N_book (ν 0) (ν 32) p q x)) (if b_book (ν 0) (ν 32) p q x = true then u2 (u2 (u2 (σ) 33 (upd (σ 33) (ν 32) p)) 34 (upd (σ 34) (ν 32) q)) 35 (upd (σ 35) (ν 32) x) else σ) τ) = Q
  refine Does.go rfl (Nat.le_of_ble_eq_true rfl) [some (.ref (a 0)), some (.int p), some (.int q), some (.int x)] 0 rfl ?_
  refine r_iload_n rfl 1 rfl d_Mod_book_0 ?_
  refine r_iconst ((-1)) rfl 2 rfl d_Mod_book_1 ?_
  refine r_icmp_ne 5 12 rfl rfl d_Mod_book_2 (fun h2 => ?_) (fun h2 => ?_)
  · refine r_aload_n rfl 13 rfl d_Mod_book_12 ?_
    refine r_iload_n rfl 14 rfl d_Mod_book_13 ?_
    refine r_iload_n rfl 15 rfl d_Mod_book_14 ?_
    refine r_callVA1 (st2 := [.int (bI (isB (ν 0) p && isB (ν 0) q))]) (w2 := MW X a ν σ τ) lk_Mod_are ln_Mod_140 (c_Mod_are X a ν σ τ p q) (by first | decide | omega) rfl rfl (Nat.le_of_ble_eq_true rfl) (Nat.le_of_ble_eq_true rfl) (Nat.le_of_ble_eq_true rfl) 0 rfl rfl rfl rfl 18 rfl d_Mod_book_15 ?_
    refine r_if_neB 21 23 rfl rfl d_Mod_book_18 (fun h18 => ?_) (fun h18 => ?_)
    · obtain ⟨pN, qN, hpN, hqN, rfl, rfl⟩ := are_t hn6 h18
      have epN : cn (nI pN) = pN := cn_nI (by omega)
      have mpN : ¬ nI pN = -1 := m1n (by omega)
      have eqN : cn (nI qN) = qN := cn_nI (by omega)
      have mqN : ¬ nI qN = -1 := m1n (by omega)
      have bpN := isB_of hn6 hpN
      have bqN := isB_of hn6 hqN
      have epq : (nI pN = nI qN) = (pN = qN) := propext (nI_eq (by omega) (by omega))
      refine r_iload_n rfl 24 rfl d_Mod_book_23 ?_
      refine r_iload_n rfl 25 rfl d_Mod_book_24 ?_
      refine r_icmp_eqN pN qN (by omega) (by omega) 28 39 rfl rfl d_Mod_book_25 (fun h25 => ?_) (fun h25 => ?_)
      · refine r_bipush ((-2)) rfl 41 rfl d_Mod_book_39 ?_
        exact r_iret rfl (Nat.zero_le _) (Nat.zero_le _) d_Mod_book_41 (by rw [← hQ]; exact ⟨by simp [R_book, b_book, N_book, h2, h18, epN, mpN, eqN, mqN, bpN, bqN, epq, h25], by first | (simp [R_book, b_book, N_book, h2, h18, epN, mpN, eqN, mqN, bpN, bqN, epq, h25, u2_self, u1_self]; done) | (simp [R_book, b_book, N_book, h2, h18, epN, mpN, eqN, mqN, bpN, bqN, epq, h25, u2_self, u1_self]; rw [← h25, u1_self])⟩)
      · refine r_iload_n rfl 29 rfl d_Mod_book_28 ?_
        refine r_iconst (nI 0) rfl 30 rfl d_Mod_book_29 ?_
        refine r_sipush (nI 9999) rfl 33 rfl d_Mod_book_30 ?_
        refine r_callS1 (st2 := [.int (bI (inR x (nI 0) (nI 9999)))]) (w2 := MW X a ν σ τ) lk_Mod_within ln_Mod_114 (c_Mod_within X x (nI 0) (nI 9999)) (by first | decide | omega) rfl rfl (Nat.le_of_ble_eq_true rfl) (Nat.le_of_ble_eq_true rfl) (Nat.le_of_ble_eq_true rfl) [] rfl rfl rfl rfl rfl 36 rfl d_Mod_book_33 ?_
        refine r_if_neB 39 42 rfl rfl d_Mod_book_36 (fun h36 => ?_) (fun h36 => ?_)
        · obtain ⟨xN, hxN, rfl⟩ := inR_t (by decide) h36
          have exN : cn (nI xN) = xN := cn_nI (by omega)
          have mxN : ¬ nI xN = -1 := m1n (by omega)
          refine r_aload_n rfl 43 rfl d_Mod_book_42 ?_
          refine r_getf (v := .int (nI (ν 32))) gf_Mod_319 0 rfl rfl 46 rfl d_Mod_book_43 ?_
          refine r_bipush (nI 8) rfl 48 rfl d_Mod_book_46 ?_
          refine r_icmp_neN (ν 32) 8 (by omega) (by omega) 51 54 rfl rfl d_Mod_book_48 (fun h48 => ?_) (fun h48 => ?_)
          · refine r_aload_n rfl 55 rfl d_Mod_book_54 ?_
            refine r_getf (v := .ref (a 33)) gf_Mod_73 0 rfl rfl 58 rfl d_Mod_book_55 ?_
            refine r_aload_n rfl 59 rfl d_Mod_book_58 ?_
            refine r_getf (v := .int (nI (ν 32))) gf_Mod_319 0 rfl rfl 62 rfl d_Mod_book_59 ?_
            refine r_iload_n rfl 63 rfl d_Mod_book_62 ?_
            refine r_iast (w2 := MW X a ν (u2 σ 33 (upd (σ 33) (ν 32) (nI pN))) τ) 21 rfl (ν 32) rfl (by omega) (by omega) rfl 64 rfl d_Mod_book_63 ?_
            refine r_aload_n rfl 65 rfl d_Mod_book_64 ?_
            refine r_getf (v := .ref (a 34)) gf_Mod_76 0 rfl rfl 68 rfl d_Mod_book_65 ?_
            refine r_aload_n rfl 69 rfl d_Mod_book_68 ?_
            refine r_getf (v := .int (nI (ν 32))) gf_Mod_319 0 rfl rfl 72 rfl d_Mod_book_69 ?_
            refine r_iload_n rfl 73 rfl d_Mod_book_72 ?_
            refine r_iast (w2 := MW X a ν (u2 (u2 σ 33 (upd (σ 33) (ν 32) (nI pN))) 34 (upd (σ 34) (ν 32) (nI qN))) τ) 22 rfl (ν 32) rfl (by omega) (by omega) rfl 74 rfl d_Mod_book_73 ?_
            refine r_aload_n rfl 75 rfl d_Mod_book_74 ?_
            refine r_getf (v := .ref (a 35)) gf_Mod_79 0 rfl rfl 78 rfl d_Mod_book_75 ?_
            refine r_aload_n rfl 79 rfl d_Mod_book_78 ?_
            refine r_dup rfl 80 rfl d_Mod_book_79 ?_
            refine r_getf (v := .int (nI (ν 32))) gf_Mod_319 0 rfl rfl 83 rfl d_Mod_book_80 ?_
            refine r_dup_x1 rfl rfl 84 rfl d_Mod_book_83 ?_
            refine r_iconst (nI 1) rfl 85 rfl d_Mod_book_84 ?_
            refine r_iadd 86 rfl d_Mod_book_85 ?_
            refine r_topi (nI ((ν 32) + 1)) (nI_add _ _) ?_
            refine r_putf (w2 := MW X a (u1 ν 32 ((ν 32) + 1)) (u2 (u2 σ 33 (upd (σ 33) (ν 32) (nI pN))) 34 (upd (σ 34) (ν 32) (nI qN))) τ) pf_Mod_319 0 rfl (rfl) rfl (Nat.le_of_ble_eq_true rfl) rfl 89 rfl d_Mod_book_86 ?_
            refine r_iload_n rfl 90 rfl d_Mod_book_89 ?_
            refine r_iast (w2 := MW X a (u1 ν 32 ((ν 32) + 1)) (u2 (u2 (u2 σ 33 (upd (σ 33) (ν 32) (nI pN))) 34 (upd (σ 34) (ν 32) (nI qN))) 35 (upd (σ 35) (ν 32) (nI xN))) τ) 23 rfl (ν 32) rfl (by omega) (by omega) rfl 91 rfl d_Mod_book_90 ?_
            refine r_aload_n rfl 92 rfl d_Mod_book_91 ?_
            refine r_getf (v := .int (nI ((ν 32) + 1))) gf_Mod_319 0 rfl rfl 95 rfl d_Mod_book_92 ?_
            exact r_iret rfl (Nat.zero_le _) (Nat.zero_le _) d_Mod_book_95 (by rw [← hQ]; exact ⟨by simp [R_book, b_book, N_book, h2, h18, epN, mpN, eqN, mqN, bpN, bqN, epq, h25, h36, exN, mxN, h48], by first | (simp [R_book, b_book, N_book, h2, h18, epN, mpN, eqN, mqN, bpN, bqN, epq, h25, h36, exN, mxN, h48, u2_self, u1_self]; done) | (simp [R_book, b_book, N_book, h2, h18, epN, mpN, eqN, mqN, bpN, bqN, epq, h25, h36, exN, mxN, h48, u2_self, u1_self]; rw [← h48, u1_self])⟩)
          · refine r_bipush ((-4)) rfl 53 rfl d_Mod_book_51 ?_
            exact r_iret rfl (Nat.zero_le _) (Nat.zero_le _) d_Mod_book_53 (by rw [← hQ]; exact ⟨by simp [R_book, b_book, N_book, h2, h18, epN, mpN, eqN, mqN, bpN, bqN, epq, h25, h36, exN, mxN, h48], by first | (simp [R_book, b_book, N_book, h2, h18, epN, mpN, eqN, mqN, bpN, bqN, epq, h25, h36, exN, mxN, h48, u2_self, u1_self]; done) | (simp [R_book, b_book, N_book, h2, h18, epN, mpN, eqN, mqN, bpN, bqN, epq, h25, h36, exN, mxN, h48, u2_self, u1_self]; rw [← h48, u1_self])⟩)
        · refine r_bipush ((-2)) rfl 41 rfl d_Mod_book_39 ?_
          exact r_iret rfl (Nat.zero_le _) (Nat.zero_le _) d_Mod_book_41 (by rw [← hQ]; exact ⟨by simp [R_book, b_book, N_book, h2, h18, epN, mpN, eqN, mqN, bpN, bqN, epq, h25, h36], by first | (simp [R_book, b_book, N_book, h2, h18, epN, mpN, eqN, mqN, bpN, bqN, epq, h25, h36, u2_self, u1_self]; done) | (simp [R_book, b_book, N_book, h2, h18, epN, mpN, eqN, mqN, bpN, bqN, epq, h25, h36, u2_self, u1_self]; rw [← h36, u1_self])⟩)
    · refine r_iconst ((-1)) rfl 22 rfl d_Mod_book_21 ?_
      exact r_iret rfl (Nat.zero_le _) (Nat.zero_le _) d_Mod_book_22 (by rw [← hQ]; exact ⟨by simp [R_book, b_book, N_book, h2, h18], by first | (simp [R_book, b_book, N_book, h2, h18, u2_self, u1_self]; done) | (simp [R_book, b_book, N_book, h2, h18, u2_self, u1_self]; rw [← h18, u1_self])⟩)
  · refine r_aload_n rfl 6 rfl d_Mod_book_5 ?_
    refine r_iconst (nI 0) rfl 7 rfl d_Mod_book_6 ?_
    refine r_putf (w2 := MW X a (u1 ν 32 0) σ τ) pf_Mod_319 0 rfl (rfl) rfl (Nat.le_of_ble_eq_true rfl) rfl 10 rfl d_Mod_book_7 ?_
    refine r_iconst (nI 0) rfl 11 rfl d_Mod_book_10 ?_
    exact r_iret rfl (Nat.zero_le _) (Nat.zero_le _) d_Mod_book_11 (by rw [← hQ]; exact ⟨by simp [R_book, b_book, N_book, h2], by first | (simp [R_book, b_book, N_book, h2, u2_self, u1_self]; done) | (simp [R_book, b_book, N_book, h2, u2_self, u1_self]; rw [← h2, u1_self])⟩)
theorem c_Mod_plan (X : Xn) (a ν : Nat → Nat) (σ : Nat → Nat → Int32) (τ : Nat → Int64) (hn6 : ν 0 ≤ 6) (hs10 : ν 29 ≤ 10) (w p : Int32) : Does X 4 M_Mod_plan [.ref (a 0), .int w, .int p] (MW X a ν σ τ) 0 0 (fun (vv : Option Value) (ww : va_W) => vv = some (.int (R_plan (ν 0) (ν 29) w p)) ∧ ww = MW X a (u1 ν 29 (N_plan (ν 0) (ν 29) w p)) (if b_plan (ν 0) (ν 29) w p = true then u2 (u2 σ 30 (upd (σ 30) (ν 29) w)) 31 (upd (σ 31) (ν 29) (if cn w = 0 then nI 0 else p)) else σ) τ) := by
  generalize hQ : (fun (vv : Option Value) (ww : va_W) => vv = some (.int (R_plan (ν 0) (ν 29) w p)) ∧ ww = MW X a (u1 ν 29 (N_plan (ν 0) (ν 29) w p)) (if b_plan (ν 0) (ν 29) w p = true then u2 (u2 σ 30 (upd (σ 30) (ν 29) w)) 31 (upd (σ 31) (ν 29) (if cn w = 0 then nI 0 else p)) else σ) τ) = Q
  refine Does.go rfl (Nat.le_of_ble_eq_true rfl) [some (.ref (a 0)), some (.int w), some (.int p)] 0 rfl ?_
  refine r_iload_n rfl 1 rfl d_Mod_plan_0 ?_
  refine r_iconst ((-1)) rfl 2 rfl d_Mod_plan_1 ?_
  refine r_icmp_ne 5 12 rfl rfl d_Mod_plan_2 (fun h2 => ?_) (fun h2 => ?_)
  · refine r_iload_n rfl 13 rfl d_Mod_plan_12 ?_
    refine r_iconst (nI 0) rfl 14 rfl d_Mod_plan_13 ?_
    refine r_iconst (nI 3) rfl 15 rfl d_Mod_plan_14 ?_
    refine r_callS1 (st2 := [.int (bI (inR w (nI 0) (nI 3)))]) (w2 := MW X a ν σ τ) lk_Mod_within ln_Mod_114 (c_Mod_within X w (nI 0) (nI 3)) (by first | decide | omega) rfl rfl (Nat.le_of_ble_eq_true rfl) (Nat.le_of_ble_eq_true rfl) (Nat.le_of_ble_eq_true rfl) [] rfl rfl rfl rfl rfl 18 rfl d_Mod_plan_15 ?_
    refine r_if_eqB 21 33 rfl rfl d_Mod_plan_18 (fun h18 => ?_) (fun h18 => ?_)
    · refine r_iconst ((-1)) rfl 34 rfl d_Mod_plan_33 ?_
      exact r_iret rfl (Nat.zero_le _) (Nat.zero_le _) d_Mod_plan_34 (by rw [← hQ]; exact ⟨by simp [R_plan, b_plan, N_plan, h2, h18], by first | (simp [R_plan, b_plan, N_plan, h2, h18, u2_self, u1_self]; done) | (simp [R_plan, b_plan, N_plan, h2, h18, u2_self, u1_self]; rw [← h18, u1_self])⟩)
    · obtain ⟨wN, hwN, rfl⟩ := inR_t (by decide) h18
      have ewN : cn (nI wN) = wN := cn_nI (by omega)
      have mwN : ¬ nI wN = -1 := m1n (by omega)
      refine r_iload_n rfl 22 rfl d_Mod_plan_21 ?_
      refine r_if_leN wN (by omega) 25 35 rfl rfl d_Mod_plan_22 (fun h22 => ?_) (fun h22 => ?_)
      · have n22 := Nat.not_lt.mpr h22
        obtain rfl : wN = 0 := by omega
        refine r_aload_n rfl 36 rfl d_Mod_plan_35 ?_
        refine r_getf (v := .int (nI (ν 29))) gf_Mod_312 0 rfl rfl 39 rfl d_Mod_plan_36 ?_
        refine r_bipush (nI 10) rfl 41 rfl d_Mod_plan_39 ?_
        refine r_icmp_neN (ν 29) 10 (by omega) (by omega) 44 47 rfl rfl d_Mod_plan_41 (fun h41 => ?_) (fun h41 => ?_)
        · refine r_aload_n rfl 48 rfl d_Mod_plan_47 ?_
          refine r_getf (v := .ref (a 30)) gf_Mod_67 0 rfl rfl 51 rfl d_Mod_plan_48 ?_
          refine r_aload_n rfl 52 rfl d_Mod_plan_51 ?_
          refine r_getf (v := .int (nI (ν 29))) gf_Mod_312 0 rfl rfl 55 rfl d_Mod_plan_52 ?_
          refine r_iload_n rfl 56 rfl d_Mod_plan_55 ?_
          refine r_iast (w2 := MW X a ν (u2 σ 30 (upd (σ 30) (ν 29) (nI 0))) τ) 19 rfl (ν 29) rfl (by omega) (by omega) rfl 57 rfl d_Mod_plan_56 ?_
          refine r_aload_n rfl 58 rfl d_Mod_plan_57 ?_
          refine r_getf (v := .ref (a 31)) gf_Mod_70 0 rfl rfl 61 rfl d_Mod_plan_58 ?_
          refine r_aload_n rfl 62 rfl d_Mod_plan_61 ?_
          refine r_dup rfl 63 rfl d_Mod_plan_62 ?_
          refine r_getf (v := .int (nI (ν 29))) gf_Mod_312 0 rfl rfl 66 rfl d_Mod_plan_63 ?_
          refine r_dup_x1 rfl rfl 67 rfl d_Mod_plan_66 ?_
          refine r_iconst (nI 1) rfl 68 rfl d_Mod_plan_67 ?_
          refine r_iadd 69 rfl d_Mod_plan_68 ?_
          refine r_topi (nI ((ν 29) + 1)) (nI_add _ _) ?_
          refine r_putf (w2 := MW X a (u1 ν 29 ((ν 29) + 1)) (u2 σ 30 (upd (σ 30) (ν 29) (nI 0))) τ) pf_Mod_312 0 rfl (rfl) rfl (Nat.le_of_ble_eq_true rfl) rfl 72 rfl d_Mod_plan_69 ?_
          refine r_iload_n rfl 73 rfl d_Mod_plan_72 ?_
          refine r_if_neN_f 0 (by omega) 76 rfl 80 rfl d_Mod_plan_73 (rfl) ?_
          refine r_iconst (nI 0) rfl 77 rfl d_Mod_plan_76 ?_
          refine r_goto 81 rfl d_Mod_plan_77 ?_
          refine r_iast (w2 := MW X a (u1 ν 29 ((ν 29) + 1)) (u2 (u2 σ 30 (upd (σ 30) (ν 29) (nI 0))) 31 (upd (σ 31) (ν 29) (nI 0))) τ) 20 rfl (ν 29) rfl (by omega) (by omega) rfl 82 rfl d_Mod_plan_81 ?_
          refine r_aload_n rfl 83 rfl d_Mod_plan_82 ?_
          refine r_getf (v := .int (nI ((ν 29) + 1))) gf_Mod_312 0 rfl rfl 86 rfl d_Mod_plan_83 ?_
          exact r_iret rfl (Nat.zero_le _) (Nat.zero_le _) d_Mod_plan_86 (by rw [← hQ]; exact ⟨by simp [R_plan, b_plan, N_plan, h2, h18, ewN, mwN, h41], by first | (simp [R_plan, b_plan, N_plan, h2, h18, ewN, mwN, h41, u2_self, u1_self]; done) | (simp [R_plan, b_plan, N_plan, h2, h18, ewN, mwN, h41, u2_self, u1_self]; rw [← h41, u1_self])⟩)
        · refine r_bipush ((-4)) rfl 46 rfl d_Mod_plan_44 ?_
          exact r_iret rfl (Nat.zero_le _) (Nat.zero_le _) d_Mod_plan_46 (by rw [← hQ]; exact ⟨by simp [R_plan, b_plan, N_plan, h2, h18, ewN, mwN, h41], by first | (simp [R_plan, b_plan, N_plan, h2, h18, ewN, mwN, h41, u2_self, u1_self]; done) | (simp [R_plan, b_plan, N_plan, h2, h18, ewN, mwN, h41, u2_self, u1_self]; rw [← h41, u1_self])⟩)
      · have n22 := Nat.not_le.mpr h22
        have hw0 : ¬ wN = 0 := by omega
        refine r_aload_n rfl 26 rfl d_Mod_plan_25 ?_
        refine r_iload_n rfl 27 rfl d_Mod_plan_26 ?_
        refine r_callVA1 (st2 := [.int (bI (isB (ν 0) p))]) (w2 := MW X a ν σ τ) lk_Mod_isOne ln_Mod_118 (c_Mod_isOne X a ν σ τ p) (by first | decide | omega) rfl rfl (Nat.le_of_ble_eq_true rfl) (Nat.le_of_ble_eq_true rfl) (Nat.le_of_ble_eq_true rfl) 0 rfl rfl rfl rfl 30 rfl d_Mod_plan_27 ?_
        refine r_if_neB 33 35 rfl rfl d_Mod_plan_30 (fun h30 => ?_) (fun h30 => ?_)
        · obtain ⟨pN, hpN, rfl⟩ := isB_t hn6 h30
          have epN : cn (nI pN) = pN := cn_nI (by omega)
          have mpN : ¬ nI pN = -1 := m1n (by omega)
          refine r_aload_n rfl 36 rfl d_Mod_plan_35 ?_
          refine r_getf (v := .int (nI (ν 29))) gf_Mod_312 0 rfl rfl 39 rfl d_Mod_plan_36 ?_
          refine r_bipush (nI 10) rfl 41 rfl d_Mod_plan_39 ?_
          refine r_icmp_neN (ν 29) 10 (by omega) (by omega) 44 47 rfl rfl d_Mod_plan_41 (fun h41 => ?_) (fun h41 => ?_)
          · refine r_aload_n rfl 48 rfl d_Mod_plan_47 ?_
            refine r_getf (v := .ref (a 30)) gf_Mod_67 0 rfl rfl 51 rfl d_Mod_plan_48 ?_
            refine r_aload_n rfl 52 rfl d_Mod_plan_51 ?_
            refine r_getf (v := .int (nI (ν 29))) gf_Mod_312 0 rfl rfl 55 rfl d_Mod_plan_52 ?_
            refine r_iload_n rfl 56 rfl d_Mod_plan_55 ?_
            refine r_iast (w2 := MW X a ν (u2 σ 30 (upd (σ 30) (ν 29) (nI wN))) τ) 19 rfl (ν 29) rfl (by omega) (by omega) rfl 57 rfl d_Mod_plan_56 ?_
            refine r_aload_n rfl 58 rfl d_Mod_plan_57 ?_
            refine r_getf (v := .ref (a 31)) gf_Mod_70 0 rfl rfl 61 rfl d_Mod_plan_58 ?_
            refine r_aload_n rfl 62 rfl d_Mod_plan_61 ?_
            refine r_dup rfl 63 rfl d_Mod_plan_62 ?_
            refine r_getf (v := .int (nI (ν 29))) gf_Mod_312 0 rfl rfl 66 rfl d_Mod_plan_63 ?_
            refine r_dup_x1 rfl rfl 67 rfl d_Mod_plan_66 ?_
            refine r_iconst (nI 1) rfl 68 rfl d_Mod_plan_67 ?_
            refine r_iadd 69 rfl d_Mod_plan_68 ?_
            refine r_topi (nI ((ν 29) + 1)) (nI_add _ _) ?_
            refine r_putf (w2 := MW X a (u1 ν 29 ((ν 29) + 1)) (u2 σ 30 (upd (σ 30) (ν 29) (nI wN))) τ) pf_Mod_312 0 rfl (rfl) rfl (Nat.le_of_ble_eq_true rfl) rfl 72 rfl d_Mod_plan_69 ?_
            refine r_iload_n rfl 73 rfl d_Mod_plan_72 ?_
            refine r_if_neN_t wN (by omega) 80 rfl d_Mod_plan_73 (hw0) ?_
            refine r_iload_n rfl 81 rfl d_Mod_plan_80 ?_
            refine r_iast (w2 := MW X a (u1 ν 29 ((ν 29) + 1)) (u2 (u2 σ 30 (upd (σ 30) (ν 29) (nI wN))) 31 (upd (σ 31) (ν 29) (nI pN))) τ) 20 rfl (ν 29) rfl (by omega) (by omega) rfl 82 rfl d_Mod_plan_81 ?_
            refine r_aload_n rfl 83 rfl d_Mod_plan_82 ?_
            refine r_getf (v := .int (nI ((ν 29) + 1))) gf_Mod_312 0 rfl rfl 86 rfl d_Mod_plan_83 ?_
            exact r_iret rfl (Nat.zero_le _) (Nat.zero_le _) d_Mod_plan_86 (by rw [← hQ]; exact ⟨by simp [R_plan, b_plan, N_plan, h2, h18, ewN, mwN, hw0, h30, epN, mpN, h41], by first | (simp [R_plan, b_plan, N_plan, h2, h18, ewN, mwN, hw0, h30, epN, mpN, h41, u2_self, u1_self]; done) | (simp [R_plan, b_plan, N_plan, h2, h18, ewN, mwN, hw0, h30, epN, mpN, h41, u2_self, u1_self]; rw [← h41, u1_self])⟩)
          · refine r_bipush ((-4)) rfl 46 rfl d_Mod_plan_44 ?_
            exact r_iret rfl (Nat.zero_le _) (Nat.zero_le _) d_Mod_plan_46 (by rw [← hQ]; exact ⟨by simp [R_plan, b_plan, N_plan, h2, h18, ewN, mwN, hw0, h30, epN, mpN, h41], by first | (simp [R_plan, b_plan, N_plan, h2, h18, ewN, mwN, hw0, h30, epN, mpN, h41, u2_self, u1_self]; done) | (simp [R_plan, b_plan, N_plan, h2, h18, ewN, mwN, hw0, h30, epN, mpN, h41, u2_self, u1_self]; rw [← h41, u1_self])⟩)
        · refine r_iconst ((-1)) rfl 34 rfl d_Mod_plan_33 ?_
          exact r_iret rfl (Nat.zero_le _) (Nat.zero_le _) d_Mod_plan_34 (by rw [← hQ]; exact ⟨by simp [R_plan, b_plan, N_plan, h2, h18, ewN, mwN, hw0, h30], by first | (simp [R_plan, b_plan, N_plan, h2, h18, ewN, mwN, hw0, h30, u2_self, u1_self]; done) | (simp [R_plan, b_plan, N_plan, h2, h18, ewN, mwN, hw0, h30, u2_self, u1_self]; rw [← h30, u1_self])⟩)
  · refine r_aload_n rfl 6 rfl d_Mod_plan_5 ?_
    refine r_iconst (nI 0) rfl 7 rfl d_Mod_plan_6 ?_
    refine r_putf (w2 := MW X a (u1 ν 29 0) σ τ) pf_Mod_312 0 rfl (rfl) rfl (Nat.le_of_ble_eq_true rfl) rfl 10 rfl d_Mod_plan_7 ?_
    refine r_iconst (nI 0) rfl 11 rfl d_Mod_plan_10 ?_
    exact r_iret rfl (Nat.zero_le _) (Nat.zero_le _) d_Mod_plan_11 (by rw [← hQ]; exact ⟨by simp [R_plan, b_plan, N_plan, h2], by first | (simp [R_plan, b_plan, N_plan, h2, u2_self, u1_self]; done) | (simp [R_plan, b_plan, N_plan, h2, u2_self, u1_self]; rw [← h2, u1_self])⟩)
