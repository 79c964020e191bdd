def M_Mod_reads : XM := (⟨"HandshakeBindsModel", "reads", "(IIII)I"⟩, prog_11_method_32_code, 5, (some .int))
theorem d_Mod_reads_0 : decode M_Mod_reads.2.1 0 = .ok (.aload_n 0, 1) := by decide +kernel
theorem d_Mod_reads_1 : decode M_Mod_reads.2.1 1 = .ok (.iload_n 1, 1) := by decide +kernel
theorem d_Mod_reads_2 : decode M_Mod_reads.2.1 2 = .ok (.iload_n 2, 1) := by decide +kernel
theorem d_Mod_reads_3 : decode M_Mod_reads.2.1 3 = .ok (.invokevirtual 140, 3) := by decide +kernel
theorem d_Mod_reads_6 : decode M_Mod_reads.2.1 6 = .ok (.ifCond .ne 5, 3) := by decide +kernel
theorem d_Mod_reads_11 : decode M_Mod_reads.2.1 11 = .ok (.iload_n 1, 1) := by decide +kernel
theorem d_Mod_reads_12 : decode M_Mod_reads.2.1 12 = .ok (.iload_n 2, 1) := by decide +kernel
theorem d_Mod_reads_13 : decode M_Mod_reads.2.1 13 = .ok (.if_icmp .eq 21, 3) := by decide +kernel
theorem d_Mod_reads_34 : decode M_Mod_reads.2.1 34 = .ok (.bipush (-2), 2) := by decide +kernel
theorem d_Mod_reads_36 : decode M_Mod_reads.2.1 36 = .ok (.ireturn, 1) := by decide +kernel
theorem d_Mod_reads_16 : decode M_Mod_reads.2.1 16 = .ok (.iload_n 3, 1) := by decide +kernel
theorem d_Mod_reads_17 : decode M_Mod_reads.2.1 17 = .ok (.invokestatic 237, 3) := by decide +kernel
theorem d_Mod_reads_20 : decode M_Mod_reads.2.1 20 = .ok (.ifCond .eq 14, 3) := by decide +kernel
theorem d_Mod_reads_23 : decode M_Mod_reads.2.1 23 = .ok (.iload 4, 2) := by decide +kernel
theorem d_Mod_reads_25 : decode M_Mod_reads.2.1 25 = .ok (.iconst 0, 1) := by decide +kernel
theorem d_Mod_reads_26 : decode M_Mod_reads.2.1 26 = .ok (.bipush 60, 2) := by decide +kernel
theorem d_Mod_reads_28 : decode M_Mod_reads.2.1 28 = .ok (.invokestatic 114, 3) := by decide +kernel
theorem d_Mod_reads_31 : decode M_Mod_reads.2.1 31 = .ok (.ifCond .ne 6, 3) := by decide +kernel
theorem d_Mod_reads_37 : decode M_Mod_reads.2.1 37 = .ok (.aload_n 0, 1) := by decide +kernel
theorem d_Mod_reads_38 : decode M_Mod_reads.2.1 38 = .ok (.iload_n 1, 1) := by decide +kernel
theorem d_Mod_reads_39 : decode M_Mod_reads.2.1 39 = .ok (.iload_n 2, 1) := by decide +kernel
theorem d_Mod_reads_40 : decode M_Mod_reads.2.1 40 = .ok (.iload_n 3, 1) := by decide +kernel
theorem d_Mod_reads_41 : decode M_Mod_reads.2.1 41 = .ok (.aload_n 0, 1) := by decide +kernel
theorem d_Mod_reads_42 : decode M_Mod_reads.2.1 42 = .ok (.getfield 240, 3) := by decide +kernel
theorem d_Mod_reads_45 : decode M_Mod_reads.2.1 45 = .ok (.iload 4, 2) := by decide +kernel
theorem d_Mod_reads_47 : decode M_Mod_reads.2.1 47 = .ok (.iadd, 1) := by decide +kernel
theorem d_Mod_reads_48 : decode M_Mod_reads.2.1 48 = .ok (.invokevirtual 243, 3) := by decide +kernel
theorem ln_Mod_243 : Cond.methodLink "HandshakeBindsModel" 243 M_Mod_readBy.1 ∈ TB := inTB 1163 (by decide +kernel) rfl
theorem lk_Mod_readBy : LVt M_Mod_readBy 4 := ⟨⟨inTB 72 (by decide +kernel) rfl, inTB 1166 (by decide +kernel) rfl, ⟨by decide, by decide, by decide +kernel⟩, by decide⟩, inTB 1165 (by decide +kernel) rfl, inTB 38 (by decide +kernel) rfl⟩
theorem d_Mod_reads_51 : decode M_Mod_reads.2.1 51 = .ok (.ireturn, 1) := by decide +kernel
theorem d_Mod_reads_9 : decode M_Mod_reads.2.1 9 = .ok (.iconst (-1), 1) := by decide +kernel
theorem d_Mod_reads_10 : decode M_Mod_reads.2.1 10 = .ok (.ireturn, 1) := by decide +kernel
def M_Mod_shake : XM := (⟨"HandshakeBindsModel", "shake", "(III)I"⟩, prog_11_method_33_code, 5, (some .int))
theorem d_Mod_shake_0 : decode M_Mod_shake.2.1 0 = .ok (.aload_n 0, 1) := by decide +kernel
theorem d_Mod_shake_1 : decode M_Mod_shake.2.1 1 = .ok (.iload_n 1, 1) := by decide +kernel
theorem d_Mod_shake_2 : decode M_Mod_shake.2.1 2 = .ok (.iload_n 2, 1) := by decide +kernel
theorem d_Mod_shake_3 : decode M_Mod_shake.2.1 3 = .ok (.invokevirtual 140, 3) := by decide +kernel
theorem d_Mod_shake_6 : decode M_Mod_shake.2.1 6 = .ok (.ifCond .ne 5, 3) := by decide +kernel
theorem d_Mod_shake_11 : decode M_Mod_shake.2.1 11 = .ok (.iload_n 1, 1) := by decide +kernel
theorem d_Mod_shake_12 : decode M_Mod_shake.2.1 12 = .ok (.iload_n 2, 1) := by decide +kernel
theorem d_Mod_shake_13 : decode M_Mod_shake.2.1 13 = .ok (.if_icmp .eq 10, 3) := by decide +kernel
theorem d_Mod_shake_23 : decode M_Mod_shake.2.1 23 = .ok (.bipush (-2), 2) := by decide +kernel
theorem d_Mod_shake_25 : decode M_Mod_shake.2.1 25 = .ok (.ireturn, 1) := by decide +kernel
theorem d_Mod_shake_16 : decode M_Mod_shake.2.1 16 = .ok (.iload_n 3, 1) := by decide +kernel
theorem d_Mod_shake_17 : decode M_Mod_shake.2.1 17 = .ok (.invokestatic 237, 3) := by decide +kernel
theorem d_Mod_shake_20 : decode M_Mod_shake.2.1 20 = .ok (.ifCond .ne 6, 3) := by decide +kernel
theorem d_Mod_shake_26 : decode M_Mod_shake.2.1 26 = .ok (.bipush 6, 2) := by decide +kernel
theorem d_Mod_shake_28 : decode M_Mod_shake.2.1 28 = .ok (.iload_n 1, 1) := by decide +kernel
theorem d_Mod_shake_29 : decode M_Mod_shake.2.1 29 = .ok (.imul, 1) := by decide +kernel
theorem d_Mod_shake_30 : decode M_Mod_shake.2.1 30 = .ok (.iload_n 2, 1) := by decide +kernel
theorem d_Mod_shake_31 : decode M_Mod_shake.2.1 31 = .ok (.iadd, 1) := by decide +kernel
theorem d_Mod_shake_32 : decode M_Mod_shake.2.1 32 = .ok (.istore 4, 2) := by decide +kernel
theorem d_Mod_shake_34 : decode M_Mod_shake.2.1 34 = .ok (.aload_n 0, 1) := by decide +kernel
theorem d_Mod_shake_35 : decode M_Mod_shake.2.1 35 = .ok (.getfield 24, 3) := by decide +kernel
theorem d_Mod_shake_38 : decode M_Mod_shake.2.1 38 = .ok (.iload 4, 2) := by decide +kernel
theorem d_Mod_shake_40 : decode M_Mod_shake.2.1 40 = .ok (.sipush 9999, 3) := by decide +kernel
theorem d_Mod_shake_43 : decode M_Mod_shake.2.1 43 = .ok (.aload_n 0, 1) := by decide +kernel
theorem d_Mod_shake_44 : decode M_Mod_shake.2.1 44 = .ok (.getfield 24, 3) := by decide +kernel
theorem d_Mod_shake_47 : decode M_Mod_shake.2.1 47 = .ok (.iload 4, 2) := by decide +kernel
theorem d_Mod_shake_49 : decode M_Mod_shake.2.1 49 = .ok (.iaload, 1) := by decide +kernel
theorem d_Mod_shake_50 : decode M_Mod_shake.2.1 50 = .ok (.aload_n 0, 1) := by decide +kernel
theorem d_Mod_shake_51 : decode M_Mod_shake.2.1 51 = .ok (.iload_n 1, 1) := by decide +kernel
theorem d_Mod_shake_52 : decode M_Mod_shake.2.1 52 = .ok (.iload_n 2, 1) := by decide +kernel
theorem d_Mod_shake_53 : decode M_Mod_shake.2.1 53 = .ok (.iload_n 3, 1) := by decide +kernel
theorem d_Mod_shake_54 : decode M_Mod_shake.2.1 54 = .ok (.aload_n 0, 1) := by decide +kernel
theorem d_Mod_shake_55 : decode M_Mod_shake.2.1 55 = .ok (.getfield 240, 3) := by decide +kernel
theorem d_Mod_shake_58 : decode M_Mod_shake.2.1 58 = .ok (.invokevirtual 243, 3) := by decide +kernel
theorem d_Mod_shake_61 : decode M_Mod_shake.2.1 61 = .ok (.iadd, 1) := by decide +kernel
theorem d_Mod_shake_62 : decode M_Mod_shake.2.1 62 = .ok (.invokestatic 246, 3) := by decide +kernel
theorem d_Mod_shake_65 : decode M_Mod_shake.2.1 65 = .ok (.iastore, 1) := by decide +kernel
theorem d_Mod_shake_66 : decode M_Mod_shake.2.1 66 = .ok (.aload_n 0, 1) := by decide +kernel
theorem d_Mod_shake_67 : decode M_Mod_shake.2.1 67 = .ok (.getfield 24, 3) := by decide +kernel
theorem d_Mod_shake_70 : decode M_Mod_shake.2.1 70 = .ok (.iload 4, 2) := by decide +kernel
theorem d_Mod_shake_72 : decode M_Mod_shake.2.1 72 = .ok (.iaload, 1) := by decide +kernel
theorem d_Mod_shake_73 : decode M_Mod_shake.2.1 73 = .ok (.ireturn, 1) := by decide +kernel
theorem d_Mod_shake_9 : decode M_Mod_shake.2.1 9 = .ok (.iconst (-1), 1) := by decide +kernel
theorem d_Mod_shake_10 : decode M_Mod_shake.2.1 10 = .ok (.ireturn, 1) := by decide +kernel
def M_Mod_squeezes : XM := (⟨"HandshakeBindsModel", "squeezes", "(IIII)I"⟩, prog_11_method_36_code, 8, (some .int))
theorem d_Mod_squeezes_0 : decode M_Mod_squeezes.2.1 0 = .ok (.aload_n 0, 1) := by decide +kernel
theorem d_Mod_squeezes_1 : decode M_Mod_squeezes.2.1 1 = .ok (.iload_n 1, 1) := by decide +kernel
theorem d_Mod_squeezes_2 : decode M_Mod_squeezes.2.1 2 = .ok (.iload_n 2, 1) := by decide +kernel
theorem d_Mod_squeezes_3 : decode M_Mod_squeezes.2.1 3 = .ok (.invokevirtual 140, 3) := by decide +kernel
theorem d_Mod_squeezes_6 : decode M_Mod_squeezes.2.1 6 = .ok (.ifCond .eq 13, 3) := by decide +kernel
theorem d_Mod_squeezes_19 : decode M_Mod_squeezes.2.1 19 = .ok (.iconst (-1), 1) := by decide +kernel
theorem d_Mod_squeezes_20 : decode M_Mod_squeezes.2.1 20 = .ok (.ireturn, 1) := by decide +kernel
theorem d_Mod_squeezes_9 : decode M_Mod_squeezes.2.1 9 = .ok (.iload 4, 2) := by decide +kernel
theorem d_Mod_squeezes_11 : decode M_Mod_squeezes.2.1 11 = .ok (.iconst 0, 1) := by decide +kernel
theorem d_Mod_squeezes_12 : decode M_Mod_squeezes.2.1 12 = .ok (.iconst 1, 1) := by decide +kernel
theorem d_Mod_squeezes_13 : decode M_Mod_squeezes.2.1 13 = .ok (.invokestatic 114, 3) := by decide +kernel
theorem d_Mod_squeezes_16 : decode M_Mod_squeezes.2.1 16 = .ok (.ifCond .ne 5, 3) := by decide +kernel
theorem d_Mod_squeezes_21 : decode M_Mod_squeezes.2.1 21 = .ok (.iload_n 1, 1) := by decide +kernel
theorem d_Mod_squeezes_22 : decode M_Mod_squeezes.2.1 22 = .ok (.iload_n 2, 1) := by decide +kernel
theorem d_Mod_squeezes_23 : decode M_Mod_squeezes.2.1 23 = .ok (.if_icmp .eq 14, 3) := by decide +kernel
theorem d_Mod_squeezes_37 : decode M_Mod_squeezes.2.1 37 = .ok (.bipush (-2), 2) := by decide +kernel
theorem d_Mod_squeezes_39 : decode M_Mod_squeezes.2.1 39 = .ok (.ireturn, 1) := by decide +kernel
theorem d_Mod_squeezes_26 : decode M_Mod_squeezes.2.1 26 = .ok (.iload_n 3, 1) := by decide +kernel
theorem d_Mod_squeezes_27 : decode M_Mod_squeezes.2.1 27 = .ok (.iconst 1, 1) := by decide +kernel
theorem d_Mod_squeezes_28 : decode M_Mod_squeezes.2.1 28 = .ok (.sipush 999, 3) := by decide +kernel
theorem d_Mod_squeezes_31 : decode M_Mod_squeezes.2.1 31 = .ok (.invokestatic 114, 3) := by decide +kernel
theorem d_Mod_squeezes_34 : decode M_Mod_squeezes.2.1 34 = .ok (.ifCond .ne 6, 3) := by decide +kernel
theorem d_Mod_squeezes_40 : decode M_Mod_squeezes.2.1 40 = .ok (.iconst 0, 1) := by decide +kernel
theorem d_Mod_squeezes_41 : decode M_Mod_squeezes.2.1 41 = .ok (.istore 5, 2) := by decide +kernel
theorem d_Mod_squeezes_43 : decode M_Mod_squeezes.2.1 43 = .ok (.bipush (-5), 2) := by decide +kernel
theorem d_Mod_squeezes_45 : decode M_Mod_squeezes.2.1 45 = .ok (.istore 6, 2) := by decide +kernel
theorem d_Mod_squeezes_47 : decode M_Mod_squeezes.2.1 47 = .ok (.bipush 99, 2) := by decide +kernel
theorem d_Mod_squeezes_49 : decode M_Mod_squeezes.2.1 49 = .ok (.istore 7, 2) := by decide +kernel
theorem d_Mod_squeezes_51 : decode M_Mod_squeezes.2.1 51 = .ok (.iload 7, 2) := by decide +kernel
theorem d_Mod_squeezes_53 : decode M_Mod_squeezes.2.1 53 = .ok (.ifCond .lt 35, 3) := by decide +kernel
theorem d_Mod_squeezes_88 : decode M_Mod_squeezes.2.1 88 = .ok (.iload 4, 2) := by decide +kernel
theorem d_Mod_squeezes_90 : decode M_Mod_squeezes.2.1 90 = .ok (.ifCond .ne 8, 3) := by decide +kernel
theorem d_Mod_squeezes_98 : decode M_Mod_squeezes.2.1 98 = .ok (.iload 6, 2) := by decide +kernel
theorem d_Mod_squeezes_100 : decode M_Mod_squeezes.2.1 100 = .ok (.ireturn, 1) := by decide +kernel
theorem d_Mod_squeezes_93 : decode M_Mod_squeezes.2.1 93 = .ok (.iload 5, 2) := by decide +kernel
theorem d_Mod_squeezes_95 : decode M_Mod_squeezes.2.1 95 = .ok (.goto 5, 3) := by decide +kernel
theorem d_Mod_squeezes_56 : decode M_Mod_squeezes.2.1 56 = .ok (.aload_n 0, 1) := by decide +kernel
theorem d_Mod_squeezes_57 : decode M_Mod_squeezes.2.1 57 = .ok (.iload_n 1, 1) := by decide +kernel
theorem d_Mod_squeezes_58 : decode M_Mod_squeezes.2.1 58 = .ok (.iload_n 2, 1) := by decide +kernel
theorem d_Mod_squeezes_59 : decode M_Mod_squeezes.2.1 59 = .ok (.iload 7, 2) := by decide +kernel
theorem d_Mod_squeezes_61 : decode M_Mod_squeezes.2.1 61 = .ok (.aload_n 0, 1) := by decide +kernel
theorem d_Mod_squeezes_62 : decode M_Mod_squeezes.2.1 62 = .ok (.getfield 240, 3) := by decide +kernel
theorem d_Mod_squeezes_65 : decode M_Mod_squeezes.2.1 65 = .ok (.invokevirtual 243, 3) := by decide +kernel
theorem d_Mod_squeezes_68 : decode M_Mod_squeezes.2.1 68 = .ok (.iload_n 3, 1) := by decide +kernel
theorem d_Mod_squeezes_69 : decode M_Mod_squeezes.2.1 69 = .ok (.if_icmp .eq 6, 3) := by decide +kernel
theorem d_Mod_squeezes_75 : decode M_Mod_squeezes.2.1 75 = .ok (.iinc 5 1, 3) := by decide +kernel
theorem d_Mod_squeezes_78 : decode M_Mod_squeezes.2.1 78 = .ok (.iload 7, 2) := by decide +kernel
theorem d_Mod_squeezes_80 : decode M_Mod_squeezes.2.1 80 = .ok (.istore 6, 2) := by decide +kernel
theorem d_Mod_squeezes_82 : decode M_Mod_squeezes.2.1 82 = .ok (.iinc 7 (-1), 3) := by decide +kernel
theorem d_Mod_squeezes_85 : decode M_Mod_squeezes.2.1 85 = .ok (.goto (-34), 3) := by decide +kernel
theorem d_Mod_squeezes_72 : decode M_Mod_squeezes.2.1 72 = .ok (.goto 10, 3) := by decide +kernel
def M_Mod_isSo : XM := (⟨"HandshakeBindsModel", "isSo", "(I)Z"⟩, prog_11_method_50_code, 2, (some .boolean))
theorem d_Mod_isSo_0 : decode M_Mod_isSo.2.1 0 = .ok (.aload_n 0, 1) := by decide +kernel
theorem d_Mod_isSo_1 : decode M_Mod_isSo.2.1 1 = .ok (.aload_n 0, 1) := by decide +kernel
theorem d_Mod_isSo_2 : decode M_Mod_isSo.2.1 2 = .ok (.getfield 52, 3) := by decide +kernel
theorem d_Mod_isSo_5 : decode M_Mod_isSo.2.1 5 = .ok (.iload_n 1, 1) := by decide +kernel
theorem d_Mod_isSo_6 : decode M_Mod_isSo.2.1 6 = .ok (.iaload, 1) := by decide +kernel
theorem d_Mod_isSo_7 : decode M_Mod_isSo.2.1 7 = .ok (.aload_n 0, 1) := by decide +kernel
theorem d_Mod_isSo_8 : decode M_Mod_isSo.2.1 8 = .ok (.getfield 55, 3) := by decide +kernel
theorem d_Mod_isSo_11 : decode M_Mod_isSo.2.1 11 = .ok (.iload_n 1, 1) := by decide +kernel
theorem d_Mod_isSo_12 : decode M_Mod_isSo.2.1 12 = .ok (.iaload, 1) := by decide +kernel
theorem d_Mod_isSo_13 : decode M_Mod_isSo.2.1 13 = .ok (.aload_n 0, 1) := by decide +kernel
theorem d_Mod_isSo_14 : decode M_Mod_isSo.2.1 14 = .ok (.getfield 58, 3) := by decide +kernel
theorem d_Mod_isSo_17 : decode M_Mod_isSo.2.1 17 = .ok (.iload_n 1, 1) := by decide +kernel
theorem d_Mod_isSo_18 : decode M_Mod_isSo.2.1 18 = .ok (.iaload, 1) := by decide +kernel
theorem d_Mod_isSo_19 : decode M_Mod_isSo.2.1 19 = .ok (.aload_n 0, 1) := by decide +kernel
theorem d_Mod_isSo_20 : decode M_Mod_isSo.2.1 20 = .ok (.getfield 240, 3) := by decide +kernel
theorem d_Mod_isSo_23 : decode M_Mod_isSo.2.1 23 = .ok (.aload_n 0, 1) := by decide +kernel
theorem d_Mod_isSo_24 : decode M_Mod_isSo.2.1 24 = .ok (.getfield 61, 3) := by decide +kernel
theorem d_Mod_isSo_27 : decode M_Mod_isSo.2.1 27 = .ok (.iload_n 1, 1) := by decide +kernel
theorem d_Mod_isSo_28 : decode M_Mod_isSo.2.1 28 = .ok (.iaload, 1) := by decide +kernel
theorem d_Mod_isSo_29 : decode M_Mod_isSo.2.1 29 = .ok (.iadd, 1) := by decide +kernel
theorem d_Mod_isSo_30 : decode M_Mod_isSo.2.1 30 = .ok (.invokevirtual 243, 3) := by decide +kernel
theorem d_Mod_isSo_33 : decode M_Mod_isSo.2.1 33 = .ok (.aload_n 0, 1) := by decide +kernel
theorem d_Mod_isSo_34 : decode M_Mod_isSo.2.1 34 = .ok (.getfield 64, 3) := by decide +kernel
theorem d_Mod_isSo_37 : decode M_Mod_isSo.2.1 37 = .ok (.iload_n 1, 1) := by decide +kernel
theorem d_Mod_isSo_38 : decode M_Mod_isSo.2.1 38 = .ok (.iaload, 1) := by decide +kernel
theorem d_Mod_isSo_39 : decode M_Mod_isSo.2.1 39 = .ok (.if_icmp .ne 7, 3) := by decide +kernel
theorem d_Mod_isSo_46 : decode M_Mod_isSo.2.1 46 = .ok (.iconst 0, 1) := by decide +kernel
theorem d_Mod_isSo_47 : decode M_Mod_isSo.2.1 47 = .ok (.ireturn, 1) := by decide +kernel
theorem d_Mod_isSo_42 : decode M_Mod_isSo.2.1 42 = .ok (.iconst 1, 1) := by decide +kernel
theorem d_Mod_isSo_43 : decode M_Mod_isSo.2.1 43 = .ok (.goto 4, 3) := by decide +kernel
def M_Mod_wrong : XM := (⟨"HandshakeBindsModel", "wrong", "()I"⟩, prog_11_method_51_code, 2, (some .int))
theorem d_Mod_wrong_0 : decode M_Mod_wrong.2.1 0 = .ok (.iconst 0, 1) := by decide +kernel
theorem d_Mod_wrong_1 : decode M_Mod_wrong.2.1 1 = .ok (.istore_n 1, 1) := by decide +kernel
theorem d_Mod_wrong_2 : decode M_Mod_wrong.2.1 2 = .ok (.iload_n 1, 1) := by decide +kernel
theorem d_Mod_wrong_3 : decode M_Mod_wrong.2.1 3 = .ok (.aload_n 0, 1) := by decide +kernel
theorem d_Mod_wrong_4 : decode M_Mod_wrong.2.1 4 = .ok (.getfield 297, 3) := by decide +kernel
theorem d_Mod_wrong_7 : decode M_Mod_wrong.2.1 7 = .ok (.if_icmp .ge 19, 3) := by decide +kernel
theorem d_Mod_wrong_26 : decode M_Mod_wrong.2.1 26 = .ok (.bipush (-5), 2) := by decide +kernel
theorem d_Mod_wrong_28 : decode M_Mod_wrong.2.1 28 = .ok (.ireturn, 1) := by decide +kernel
theorem d_Mod_wrong_10 : decode M_Mod_wrong.2.1 10 = .ok (.aload_n 0, 1) := by decide +kernel
theorem d_Mod_wrong_11 : decode M_Mod_wrong.2.1 11 = .ok (.iload_n 1, 1) := by decide +kernel
theorem d_Mod_wrong_12 : decode M_Mod_wrong.2.1 12 = .ok (.invokevirtual 300, 3) := by decide +kernel
theorem ln_Mod_300 : Cond.methodLink "HandshakeBindsModel" 300 M_Mod_isSo.1 ∈ TB := inTB 1265 (by decide +kernel) rfl
theorem lk_Mod_isSo : LVt M_Mod_isSo 1 := ⟨⟨inTB 72 (by decide +kernel) rfl, inTB 1268 (by decide +kernel) rfl, ⟨by decide, by decide, by decide +kernel⟩, by decide⟩, inTB 1267 (by decide +kernel) rfl, inTB 54 (by decide +kernel) rfl⟩
theorem d_Mod_wrong_15 : decode M_Mod_wrong.2.1 15 = .ok (.ifCond .ne 5, 3) := by decide +kernel
theorem d_Mod_wrong_20 : decode M_Mod_wrong.2.1 20 = .ok (.iinc 1 1, 3) := by decide +kernel
theorem d_Mod_wrong_23 : decode M_Mod_wrong.2.1 23 = .ok (.goto (-21), 3) := by decide +kernel
theorem d_Mod_wrong_18 : decode M_Mod_wrong.2.1 18 = .ok (.iload_n 1, 1) := by decide +kernel
theorem d_Mod_wrong_19 : decode M_Mod_wrong.2.1 19 = .ok (.ireturn, 1) := by decide +kernel
def M_Mod_isAllSo : XM := (⟨"HandshakeBindsModel", "isAllSo", "(I)Z"⟩, prog_11_method_52_code, 3, (some .boolean))
theorem d_Mod_isAllSo_0 : decode M_Mod_isAllSo.2.1 0 = .ok (.iconst 0, 1) := by decide +kernel
theorem d_Mod_isAllSo_1 : decode M_Mod_isAllSo.2.1 1 = .ok (.istore_n 2, 1) := by decide +kernel
theorem d_Mod_isAllSo_2 : decode M_Mod_isAllSo.2.1 2 = .ok (.iload_n 2, 1) := by decide +kernel
theorem d_Mod_isAllSo_3 : decode M_Mod_isAllSo.2.1 3 = .ok (.aload_n 0, 1) := by decide +kernel
theorem d_Mod_isAllSo_4 : decode M_Mod_isAllSo.2.1 4 = .ok (.getfield 297, 3) := by decide +kernel
theorem d_Mod_isAllSo_7 : decode M_Mod_isAllSo.2.1 7 = .ok (.if_icmp .ge 29, 3) := by decide +kernel
theorem d_Mod_isAllSo_36 : decode M_Mod_isAllSo.2.1 36 = .ok (.iconst 1, 1) := by decide +kernel
theorem d_Mod_isAllSo_37 : decode M_Mod_isAllSo.2.1 37 = .ok (.ireturn, 1) := by decide +kernel
theorem d_Mod_isAllSo_10 : decode M_Mod_isAllSo.2.1 10 = .ok (.aload_n 0, 1) := by decide +kernel
theorem d_Mod_isAllSo_11 : decode M_Mod_isAllSo.2.1 11 = .ok (.getfield 52, 3) := by decide +kernel
theorem d_Mod_isAllSo_14 : decode M_Mod_isAllSo.2.1 14 = .ok (.iload_n 2, 1) := by decide +kernel
theorem d_Mod_isAllSo_15 : decode M_Mod_isAllSo.2.1 15 = .ok (.iaload, 1) := by decide +kernel
theorem d_Mod_isAllSo_16 : decode M_Mod_isAllSo.2.1 16 = .ok (.iload_n 1, 1) := by decide +kernel
theorem d_Mod_isAllSo_17 : decode M_Mod_isAllSo.2.1 17 = .ok (.if_icmp .ne 13, 3) := by decide +kernel
theorem d_Mod_isAllSo_30 : decode M_Mod_isAllSo.2.1 30 = .ok (.iinc 2 1, 3) := by decide +kernel
theorem d_Mod_isAllSo_33 : decode M_Mod_isAllSo.2.1 33 = .ok (.goto (-31), 3) := by decide +kernel
theorem d_Mod_isAllSo_20 : decode M_Mod_isAllSo.2.1 20 = .ok (.aload_n 0, 1) := by decide +kernel
theorem d_Mod_isAllSo_21 : decode M_Mod_isAllSo.2.1 21 = .ok (.iload_n 2, 1) := by decide +kernel
theorem d_Mod_isAllSo_22 : decode M_Mod_isAllSo.2.1 22 = .ok (.invokevirtual 300, 3) := by decide +kernel
theorem d_Mod_isAllSo_25 : decode M_Mod_isAllSo.2.1 25 = .ok (.ifCond .ne 5, 3) := by decide +kernel
theorem d_Mod_isAllSo_28 : decode M_Mod_isAllSo.2.1 28 = .ok (.iconst 0, 1) := by decide +kernel
theorem d_Mod_isAllSo_29 : decode M_Mod_isAllSo.2.1 29 = .ok (.ireturn, 1) := by decide +kernel
theorem c_Mod_reads (X : Xn) (a ν : Nat → Nat) (σ : Nat → Nat → Int32) (τ : Nat → Int64) (hn6 : ν 0 ≤ 6) (hd9 : ν 6 ≤ 9999) (x : EX) (hx : heldX σ x) (p q s m : Int32) : Does X 6 M_Mod_reads [.ref (a 0), .int p, .int q, .int s, .int m] (MW X a ν σ τ) 0 0 (fun (vv : Option Value) (ww : va_W) => ∃ t : Nat → Int32, vv = some (.int (R_reads (ν 0) x (σ 1) (σ 2) (σ 4) (ν 6) p q s m)) ∧ ww = MW X a ν (u2 σ 22 t) τ) := by
  generalize hQ : (fun (vv : Option Value) (ww : va_W) => ∃ t : Nat → Int32, vv = some (.int (R_reads (ν 0) x (σ 1) (σ 2) (σ 4) (ν 6) p q s m)) ∧ ww = MW X a ν (u2 σ 22 t) τ) = Q
  refine Does.go rfl (Nat.le_of_ble_eq_true rfl) [some (.ref (a 0)), some (.int p), some (.int q), some (.int s), some (.int m)] 0 rfl ?_
  refine r_aload_n rfl 1 rfl d_Mod_reads_0 ?_
  refine r_iload_n rfl 2 rfl d_Mod_reads_1 ?_
  refine r_iload_n rfl 3 rfl d_Mod_reads_2 ?_
  refine r_callVA1 (st2 := [.int (bI (isB (ν 0) p && isB (ν 0) q))]) (w2 := MW X a ν σ τ) lk_Mod_are ln_Mod_140 (c_Mod_are X a ν σ τ p q) (by first | decide | omega) rfl rfl (Nat.le_of_ble_eq_true rfl) (Nat.le_of_ble_eq_true rfl) (Nat.le_of_ble_eq_true rfl) 0 rfl rfl rfl rfl 6 rfl d_Mod_reads_3 ?_
  refine r_if_neB 9 11 rfl rfl d_Mod_reads_6 (fun h6 => ?_) (fun h6 => ?_)
  · obtain ⟨pN, qN, hpN, hqN, rfl, rfl⟩ := are_t hn6 h6
    have epN : cn (nI pN) = pN := cn_nI (by omega)
    have mpN : ¬ nI pN = -1 := m1n (by omega)
    have eqN : cn (nI qN) = qN := cn_nI (by omega)
    have mqN : ¬ nI qN = -1 := m1n (by omega)
    have bpN := isB_of hn6 hpN
    have bqN := isB_of hn6 hqN
    have epq : (nI pN = nI qN) = (pN = qN) := propext (nI_eq (by omega) (by omega))
    refine r_iload_n rfl 12 rfl d_Mod_reads_11 ?_
    refine r_iload_n rfl 13 rfl d_Mod_reads_12 ?_
    refine r_icmp_eqN pN qN (by omega) (by omega) 16 34 rfl rfl d_Mod_reads_13 (fun h13 => ?_) (fun h13 => ?_)
    · refine r_bipush ((-2)) rfl 36 rfl d_Mod_reads_34 ?_
      exact r_iret rfl (Nat.zero_le _) (Nat.zero_le _) d_Mod_reads_36 (by rw [← hQ]; exact ⟨σ 22, by simp [R_reads, h6, epN, mpN, eqN, mqN, bpN, bqN, epq, h13], by rw [u2_self]⟩)
    · refine r_iload_n rfl 17 rfl d_Mod_reads_16 ?_
      refine r_callS1 (st2 := [.int (bI (inR s (nI 0) (nI 99)))]) (w2 := MW X a ν σ τ) lk_Mod_isSqueeze ln_Mod_237 (c_Mod_isSqueeze X s) (by first | decide | omega) rfl rfl (Nat.le_of_ble_eq_true rfl) (Nat.le_of_ble_eq_true rfl) (Nat.le_of_ble_eq_true rfl) [] rfl rfl rfl rfl rfl 20 rfl d_Mod_reads_17 ?_
      refine r_if_eqB 23 34 rfl rfl d_Mod_reads_20 (fun h20 => ?_) (fun h20 => ?_)
      · refine r_bipush ((-2)) rfl 36 rfl d_Mod_reads_34 ?_
        exact r_iret rfl (Nat.zero_le _) (Nat.zero_le _) d_Mod_reads_36 (by rw [← hQ]; exact ⟨σ 22, by simp [R_reads, h6, epN, mpN, eqN, mqN, bpN, bqN, epq, h13, h20], by rw [u2_self]⟩)
      · obtain ⟨sN, hsN, rfl⟩ := inR_t (by decide) h20
        have esN : cn (nI sN) = sN := cn_nI (by omega)
        have msN : ¬ nI sN = -1 := m1n (by omega)
        refine r_iload rfl 25 rfl d_Mod_reads_23 ?_
        refine r_iconst (nI 0) rfl 26 rfl d_Mod_reads_25 ?_
        refine r_bipush (nI 60) rfl 28 rfl d_Mod_reads_26 ?_
        refine r_callS1 (st2 := [.int (bI (inR m (nI 0) (nI 60)))]) (w2 := MW X a ν σ τ) lk_Mod_within ln_Mod_114 (c_Mod_within X m (nI 0) (nI 60)) (by first | decide | omega) rfl rfl (Nat.le_of_ble_eq_true rfl) (Nat.le_of_ble_eq_true rfl) (Nat.le_of_ble_eq_true rfl) [] rfl rfl rfl rfl rfl 31 rfl d_Mod_reads_28 ?_
        refine r_if_neB 34 37 rfl rfl d_Mod_reads_31 (fun h31 => ?_) (fun h31 => ?_)
        · obtain ⟨mN, hmN, rfl⟩ := inR_t (by decide) h31
          have emN : cn (nI mN) = mN := cn_nI (by omega)
          have mmN : ¬ nI mN = -1 := m1n (by omega)
          refine r_aload_n rfl 38 rfl d_Mod_reads_37 ?_
          refine r_iload_n rfl 39 rfl d_Mod_reads_38 ?_
          refine r_iload_n rfl 40 rfl d_Mod_reads_39 ?_
          refine r_iload_n rfl 41 rfl d_Mod_reads_40 ?_
          refine r_aload_n rfl 42 rfl d_Mod_reads_41 ?_
          refine r_getf (v := .int (nI (ν 6))) gf_Mod_240 0 rfl rfl 45 rfl d_Mod_reads_42 ?_
          refine r_iload rfl 47 rfl d_Mod_reads_45 ?_
          refine r_iadd 48 rfl d_Mod_reads_47 ?_
          refine r_topi (nI ((ν 6) + mN)) (nI_add _ _) ?_
          refine r_callVAQ (st2 := []) (w2 := []) lk_Mod_readBy ln_Mod_243 (c_Mod_readBy X a ν σ τ pN qN sN ((ν 6) + mN) (by omega) (by omega) (by omega) (by omega) x hx) (by first | decide | omega) rfl rfl (Nat.le_of_ble_eq_true rfl) (Nat.le_of_ble_eq_true rfl) (Nat.le_of_ble_eq_true rfl) 0 rfl rfl 51 rfl d_Mod_reads_48 (fun vv ww hq2 => ?_)
          obtain ⟨t2, rfl, rfl⟩ := hq2
          refine ⟨rfl, ?_⟩
          show Runs X 6 M_Mod_reads 0 0 Q 51 [some (.ref (a 0)), some (.int (nI pN)), some (.int (nI qN)), some (.int (nI sN)), some (.int (nI mN))] [.int (rdV x pN qN (σ 1 pN) (σ 2 pN) (σ 4) sN ((ν 6) + mN))] 0 0 (MW X a ν (u2 σ 22 t2) τ)
          exact r_iret rfl (Nat.zero_le _) (Nat.zero_le _) d_Mod_reads_51 (by rw [← hQ]; exact ⟨t2, by simp [R_reads, h6, epN, mpN, eqN, mqN, bpN, bqN, epq, h13, h20, esN, msN, h31, emN, mmN], rfl⟩)
        · refine r_bipush ((-2)) rfl 36 rfl d_Mod_reads_34 ?_
          exact r_iret rfl (Nat.zero_le _) (Nat.zero_le _) d_Mod_reads_36 (by rw [← hQ]; exact ⟨σ 22, by simp [R_reads, h6, epN, mpN, eqN, mqN, bpN, bqN, epq, h13, h20, esN, msN, h31], by rw [u2_self]⟩)
  · refine r_iconst ((-1)) rfl 10 rfl d_Mod_reads_9 ?_
    exact r_iret rfl (Nat.zero_le _) (Nat.zero_le _) d_Mod_reads_10 (by rw [← hQ]; exact ⟨σ 22, by simp [R_reads, h6], by rw [u2_self]⟩)
theorem c_Mod_shake (X : Xn) (a ν : Nat → Nat) (σ : Nat → Nat → Int32) (τ : Nat → Int64) (hn6 : ν 0 ≤ 6) (hd9 : ν 6 ≤ 9999) (x : EX) (hx : heldX σ x) (p q s : Int32) : Does X 6 M_Mod_shake [.ref (a 0), .int p, .int q, .int s] (MW X a ν σ τ) 0 0 (fun (vv : Option Value) (ww : va_W) => ∃ t : Nat → Int32, vv = some (.int (R_shake (ν 0) x (σ 1) (σ 2) (σ 4) (σ 5) (ν 6) p q s)) ∧ ww = MW X a ν (if b_shake (ν 0) p q s = true then u2 (u2 σ 22 t) 5 (upd (σ 5) (6 * cn p + cn q) (shakeV x (σ 1) (σ 2) (σ 4) (σ 5) (ν 6) p q s)) else u2 σ 22 t) τ) := by
  generalize hQ : (fun (vv : Option Value) (ww : va_W) => ∃ t : Nat → Int32, vv = some (.int (R_shake (ν 0) x (σ 1) (σ 2) (σ 4) (σ 5) (ν 6) p q s)) ∧ ww = MW X a ν (if b_shake (ν 0) p q s = true then u2 (u2 σ 22 t) 5 (upd (σ 5) (6 * cn p + cn q) (shakeV x (σ 1) (σ 2) (σ 4) (σ 5) (ν 6) p q s)) else u2 σ 22 t) τ) = Q
  refine Does.go rfl (Nat.le_of_ble_eq_true rfl) [some (.ref (a 0)), some (.int p), some (.int q), some (.int s), none] 1 rfl ?_
  refine r_aload_n rfl 1 rfl d_Mod_shake_0 ?_
  refine r_iload_n rfl 2 rfl d_Mod_shake_1 ?_
  refine r_iload_n rfl 3 rfl d_Mod_shake_2 ?_
  refine r_callVA1 (st2 := [.int (bI (isB (ν 0) p && isB (ν 0) q))]) (w2 := MW X a ν σ τ) lk_Mod_are ln_Mod_140 (c_Mod_are X a ν σ τ p q) (by first | decide | omega) rfl rfl (Nat.le_of_ble_eq_true rfl) (Nat.le_of_ble_eq_true rfl) (Nat.le_of_ble_eq_true rfl) 0 rfl rfl rfl rfl 6 rfl d_Mod_shake_3 ?_
  refine r_if_neB 9 11 rfl rfl d_Mod_shake_6 (fun h6 => ?_) (fun h6 => ?_)
  · obtain ⟨pN, qN, hpN, hqN, rfl, rfl⟩ := are_t hn6 h6
    have epN : cn (nI pN) = pN := cn_nI (by omega)
    have mpN : ¬ nI pN = -1 := m1n (by omega)
    have eqN : cn (nI qN) = qN := cn_nI (by omega)
    have mqN : ¬ nI qN = -1 := m1n (by omega)
    have bpN := isB_of hn6 hpN
    have bqN := isB_of hn6 hqN
    have epq : (nI pN = nI qN) = (pN = qN) := propext (nI_eq (by omega) (by omega))
    refine r_iload_n rfl 12 rfl d_Mod_shake_11 ?_
    refine r_iload_n rfl 13 rfl d_Mod_shake_12 ?_
    refine r_icmp_eqN pN qN (by omega) (by omega) 16 23 rfl rfl d_Mod_shake_13 (fun h13 => ?_) (fun h13 => ?_)
    · refine r_bipush ((-2)) rfl 25 rfl d_Mod_shake_23 ?_
      exact r_iret rfl (Nat.zero_le _) (Nat.zero_le _) d_Mod_shake_25 (by rw [← hQ]; exact ⟨σ 22, by simp [R_shake, b_shake, h6, epN, mpN, eqN, mqN, bpN, bqN, epq, h13], by simp [R_shake, b_shake, h6, epN, mpN, eqN, mqN, bpN, bqN, epq, h13, u2_self]⟩)
    · refine r_iload_n rfl 17 rfl d_Mod_shake_16 ?_
      refine r_callS1 (st2 := [.int (bI (inR s (nI 0) (nI 99)))]) (w2 := MW X a ν σ τ) lk_Mod_isSqueeze ln_Mod_237 (c_Mod_isSqueeze X s) (by first | decide | omega) rfl rfl (Nat.le_of_ble_eq_true rfl) (Nat.le_of_ble_eq_true rfl) (Nat.le_of_ble_eq_true rfl) [] rfl rfl rfl rfl rfl 20 rfl d_Mod_shake_17 ?_
      refine r_if_neB 23 26 rfl rfl d_Mod_shake_20 (fun h20 => ?_) (fun h20 => ?_)
      · obtain ⟨sN, hsN, rfl⟩ := inR_t (by decide) h20
        have esN : cn (nI sN) = sN := cn_nI (by omega)
        have msN : ¬ nI sN = -1 := m1n (by omega)
        refine r_bipush (nI 6) rfl 28 rfl d_Mod_shake_26 ?_
        refine r_iload_n rfl 29 rfl d_Mod_shake_28 ?_
        refine r_imul 30 rfl d_Mod_shake_29 ?_
        refine r_topi (nI (6 * pN)) (pk_mul _ _) ?_
        refine r_iload_n rfl 31 rfl d_Mod_shake_30 ?_
        refine r_iadd 32 rfl d_Mod_shake_31 ?_
        refine r_topi (nI ((6 * pN) + qN)) (nI_add _ _) ?_
        refine r_istore (ls2 := [some (.ref (a 0)), some (.int (nI pN)), some (.int (nI qN)), some (.int (nI sN)), some (.int (nI ((6 * pN) + qN)))]) 34 rfl d_Mod_shake_32 (by decide) rfl rfl ?_
        refine r_aload_n rfl 35 rfl d_Mod_shake_34 ?_
        refine r_getf (v := .ref (a 5)) gf_Mod_24 0 rfl rfl 38 rfl d_Mod_shake_35 ?_
        refine r_iload rfl 40 rfl d_Mod_shake_38 ?_
        refine r_sipush (nI 9999) rfl 43 rfl d_Mod_shake_40 ?_
        refine r_aload_n rfl 44 rfl d_Mod_shake_43 ?_
        refine r_getf (v := .ref (a 5)) gf_Mod_24 0 rfl rfl 47 rfl d_Mod_shake_44 ?_
        refine r_iload rfl 49 rfl d_Mod_shake_47 ?_
        refine r_iald (f := σ 5) 5 rfl ((6 * pN) + qN) rfl (by omega) (by omega) 50 rfl d_Mod_shake_49 ?_
        refine r_aload_n rfl 51 rfl d_Mod_shake_50 ?_
        refine r_iload_n rfl 52 rfl d_Mod_shake_51 ?_
        refine r_iload_n rfl 53 rfl d_Mod_shake_52 ?_
        refine r_iload_n rfl 54 rfl d_Mod_shake_53 ?_
        refine r_aload_n rfl 55 rfl d_Mod_shake_54 ?_
        refine r_getf (v := .int (nI (ν 6))) gf_Mod_240 0 rfl rfl 58 rfl d_Mod_shake_55 ?_
        refine r_callVAQ (st2 := []) (w2 := []) lk_Mod_readBy ln_Mod_243 (c_Mod_readBy X a ν σ τ pN qN sN (ν 6) (by omega) (by omega) (by omega) (by omega) x hx) (by first | decide | omega) rfl rfl (Nat.le_of_ble_eq_true rfl) (Nat.le_of_ble_eq_true rfl) (Nat.le_of_ble_eq_true rfl) 0 rfl rfl 61 rfl d_Mod_shake_58 (fun vv ww hq2 => ?_)
        obtain ⟨t2, rfl, rfl⟩ := hq2
        refine ⟨rfl, ?_⟩
        show Runs X 6 M_Mod_shake 0 0 Q 61 [some (.ref (a 0)), some (.int (nI pN)), some (.int (nI qN)), some (.int (nI sN)), some (.int (nI ((6 * pN) + qN)))] [.int (rdV x pN qN (σ 1 pN) (σ 2 pN) (σ 4) sN (ν 6)), .int (σ 5 ((6 * pN) + qN)), .int (nI 9999), .int (nI ((6 * pN) + qN)), .ref (a 5)] 0 0 (MW X a ν (u2 σ 22 t2) τ)
        refine r_iadd 62 rfl d_Mod_shake_61 ?_
        refine r_mmin (inTB 1187 (by decide +kernel) rfl) (by first | decide | omega) (Nat.le_of_ble_eq_true rfl) (Nat.le_of_ble_eq_true rfl) (Nat.le_of_ble_eq_true rfl) 65 rfl d_Mod_shake_62 ?_
        refine r_topi (shakeV x (σ 1) (σ 2) (σ 4) (σ 5) (ν 6) (nI pN) (nI qN) (nI sN)) (by rw [shakeV, cn_nI (by omega), cn_nI (by omega), cn_nI (by omega)]; rfl) ?_
        refine r_iast (w2 := MW X a ν (u2 (u2 σ 22 t2) 5 (upd (σ 5) ((6 * pN) + qN) (shakeV x (σ 1) (σ 2) (σ 4) (σ 5) (ν 6) (nI pN) (nI qN) (nI sN)))) τ) 5 rfl ((6 * pN) + qN) rfl (by omega) (by omega) rfl 66 rfl d_Mod_shake_65 ?_
        refine r_aload_n rfl 67 rfl d_Mod_shake_66 ?_
        refine r_getf (v := .ref (a 5)) gf_Mod_24 0 rfl rfl 70 rfl d_Mod_shake_67 ?_
        refine r_iload rfl 72 rfl d_Mod_shake_70 ?_
        refine r_iald (f := upd (σ 5) ((6 * pN) + qN) (shakeV x (σ 1) (σ 2) (σ 4) (σ 5) (ν 6) (nI pN) (nI qN) (nI sN))) 5 rfl ((6 * pN) + qN) rfl (by omega) (by omega) 73 rfl d_Mod_shake_72 ?_
        exact r_iret rfl (Nat.zero_le _) (Nat.zero_le _) d_Mod_shake_73 (by rw [← hQ]; exact ⟨t2, by simp [R_shake, b_shake, h6, epN, mpN, eqN, mqN, bpN, bqN, epq, h13, h20, esN, msN, pk_us], by simp [R_shake, b_shake, h6, epN, mpN, eqN, mqN, bpN, bqN, epq, h13, h20, esN, msN]⟩)
      · refine r_bipush ((-2)) rfl 25 rfl d_Mod_shake_23 ?_
        exact r_iret rfl (Nat.zero_le _) (Nat.zero_le _) d_Mod_shake_25 (by rw [← hQ]; exact ⟨σ 22, by simp [R_shake, b_shake, h6, epN, mpN, eqN, mqN, bpN, bqN, epq, h13, h20], by simp [R_shake, b_shake, h6, epN, mpN, eqN, mqN, bpN, bqN, epq, h13, h20, u2_self]⟩)
  · refine r_iconst ((-1)) rfl 10 rfl d_Mod_shake_9 ?_
    exact r_iret rfl (Nat.zero_le _) (Nat.zero_le _) d_Mod_shake_10 (by rw [← hQ]; exact ⟨σ 22, by simp [R_shake, b_shake, h6], by simp [R_shake, b_shake, h6, u2_self]⟩)
theorem c_Mod_squeezes (X : Xn) (a ν : Nat → Nat) (σ : Nat → Nat → Int32) (τ : Nat → Int64) (hn6 : ν 0 ≤ 6) (hd9 : ν 6 ≤ 9999) (x : EX) (hx : heldX σ x) (p q s w : Int32) : Does X 6 M_Mod_squeezes [.ref (a 0), .int p, .int q, .int s, .int w] (MW X a ν σ τ) 0 0 (fun (vv : Option Value) (ww : va_W) => ∃ t : Nat → Int32, vv = some (.int (R_squeezes (ν 0) x (σ 1) (σ 2) (σ 4) (ν 6) p q s w)) ∧ ww = MW X a ν (u2 σ 22 t) τ) := by
  generalize hQ : (fun (vv : Option Value) (ww : va_W) => ∃ t : Nat → Int32, vv = some (.int (R_squeezes (ν 0) x (σ 1) (σ 2) (σ 4) (ν 6) p q s w)) ∧ ww = MW X a ν (u2 σ 22 t) τ) = Q
  refine Does.go rfl (Nat.le_of_ble_eq_true rfl) [some (.ref (a 0)), some (.int p), some (.int q), some (.int s), some (.int w), none, none, none] 3 rfl ?_
  refine r_aload_n rfl 1 rfl d_Mod_squeezes_0 ?_
  refine r_iload_n rfl 2 rfl d_Mod_squeezes_1 ?_
  refine r_iload_n rfl 3 rfl d_Mod_squeezes_2 ?_
  refine r_callVA1 (st2 := [.int (bI (isB (ν 0) p && isB (ν 0) q))]) (w2 := MW X a ν σ τ) lk_Mod_are ln_Mod_140 (c_Mod_are X a ν σ τ p q) (by first | decide | omega) rfl rfl (Nat.le_of_ble_eq_true rfl) (Nat.le_of_ble_eq_true rfl) (Nat.le_of_ble_eq_true rfl) 0 rfl rfl rfl rfl 6 rfl d_Mod_squeezes_3 ?_
  refine r_if_eqB 9 19 rfl rfl d_Mod_squeezes_6 (fun h6 => ?_) (fun h6 => ?_)
  · refine r_iconst ((-1)) rfl 20 rfl d_Mod_squeezes_19 ?_
    exact r_iret rfl (Nat.zero_le _) (Nat.zero_le _) d_Mod_squeezes_20 (by rw [← hQ]; exact ⟨σ 22, by simp [R_squeezes, h6], by rw [u2_self]⟩)
  · obtain ⟨pN, qN, hpN, hqN, rfl, rfl⟩ := are_t hn6 h6
    have epN : cn (nI pN) = pN := cn_nI (by omega)
    have mpN : ¬ nI pN = -1 := m1n (by omega)
    have eqN : cn (nI qN) = qN := cn_nI (by omega)
    have mqN : ¬ nI qN = -1 := m1n (by omega)
    have bpN := isB_of hn6 hpN
    have bqN := isB_of hn6 hqN
    have epq : (nI pN = nI qN) = (pN = qN) := propext (nI_eq (by omega) (by omega))
    refine r_iload rfl 11 rfl d_Mod_squeezes_9 ?_
    refine r_iconst (nI 0) rfl 12 rfl d_Mod_squeezes_11 ?_
    refine r_iconst (nI 1) rfl 13 rfl d_Mod_squeezes_12 ?_
    refine r_callS1 (st2 := [.int (bI (inR w (nI 0) (nI 1)))]) (w2 := MW X a ν σ τ) lk_Mod_within ln_Mod_114 (c_Mod_within X w (nI 0) (nI 1)) (by first | decide | omega) rfl rfl (Nat.le_of_ble_eq_true rfl) (Nat.le_of_ble_eq_true rfl) (Nat.le_of_ble_eq_true rfl) [] rfl rfl rfl rfl rfl 16 rfl d_Mod_squeezes_13 ?_
    refine r_if_neB 19 21 rfl rfl d_Mod_squeezes_16 (fun h16 => ?_) (fun h16 => ?_)
    · obtain ⟨wN, hwN, rfl⟩ := inR_t (by decide) h16
      have ewN : cn (nI wN) = wN := cn_nI (by omega)
      have mwN : ¬ nI wN = -1 := m1n (by omega)
      refine r_iload_n rfl 22 rfl d_Mod_squeezes_21 ?_
      refine r_iload_n rfl 23 rfl d_Mod_squeezes_22 ?_
      refine r_icmp_eqN pN qN (by omega) (by omega) 26 37 rfl rfl d_Mod_squeezes_23 (fun h23 => ?_) (fun h23 => ?_)
      · refine r_bipush ((-2)) rfl 39 rfl d_Mod_squeezes_37 ?_
        exact r_iret rfl (Nat.zero_le _) (Nat.zero_le _) d_Mod_squeezes_39 (by rw [← hQ]; exact ⟨σ 22, by simp [R_squeezes, h6, epN, mpN, eqN, mqN, bpN, bqN, epq, h16, ewN, mwN, h23], by rw [u2_self]⟩)
      · refine r_iload_n rfl 27 rfl d_Mod_squeezes_26 ?_
        refine r_iconst (nI 1) rfl 28 rfl d_Mod_squeezes_27 ?_
        refine r_sipush (nI 999) rfl 31 rfl d_Mod_squeezes_28 ?_
        refine r_callS1 (st2 := [.int (bI (inR s (nI 1) (nI 999)))]) (w2 := MW X a ν σ τ) lk_Mod_within ln_Mod_114 (c_Mod_within X s (nI 1) (nI 999)) (by first | decide | omega) rfl rfl (Nat.le_of_ble_eq_true rfl) (Nat.le_of_ble_eq_true rfl) (Nat.le_of_ble_eq_true rfl) [] rfl rfl rfl rfl rfl 34 rfl d_Mod_squeezes_31 ?_
        refine r_if_neB 37 40 rfl rfl d_Mod_squeezes_34 (fun h34 => ?_) (fun h34 => ?_)
        · refine r_iconst (nI 0) rfl 41 rfl d_Mod_squeezes_40 ?_
          refine r_istore (ls2 := [some (.ref (a 0)), some (.int (nI pN)), some (.int (nI qN)), some (.int s), some (.int (nI wN)), some (.int (nI 0)), none, none]) 43 rfl d_Mod_squeezes_41 (by decide) rfl rfl ?_
          refine r_bipush ((-5)) rfl 45 rfl d_Mod_squeezes_43 ?_
          refine r_istore (ls2 := [some (.ref (a 0)), some (.int (nI pN)), some (.int (nI qN)), some (.int s), some (.int (nI wN)), some (.int (nI 0)), some (.int (-5)), none]) 47 rfl d_Mod_squeezes_45 (by decide) rfl rfl ?_
          refine r_bipush (nI 99) rfl 49 rfl d_Mod_squeezes_47 ?_
          refine r_istore (ls2 := [some (.ref (a 0)), some (.int (nI pN)), some (.int (nI qN)), some (.int s), some (.int (nI wN)), some (.int (nI 0)), some (.int (-5)), some (.int (nI 99))]) 51 rfl d_Mod_squeezes_49 (by decide) rfl rfl ?_
          have L51_1 : ∀ (f : Nat) (k : Nat) (t : Nat → Int32), (k ≤ 100) → k < f → Runs X 6 M_Mod_squeezes 0 0 Q 51 [some (.ref (a 0)), some (.int (nI pN)), some (.int (nI qN)), some (.int s), some (.int (nI wN)), some (.int (nI ((sq (fun z => rdV x pN qN (σ 1 pN) (σ 2 pN) (σ 4) z (ν 6)) s (100 - k)).1))), some (.int ((sq (fun z => rdV x pN qN (σ 1 pN) (σ 2 pN) (σ 4) z (ν 6)) s (100 - k)).2)), some (.int (nI k - nI 1))] [] 0 0 (MW X a ν (u2 σ 22 (t)) τ) := by
            intro f
            induction f with
            | zero => intro k t hk hmu; exact absurd hmu (Nat.not_lt_zero _)
            | succ f ih2 =>
              intro k t hk hmu
              refine r_iload rfl 53 rfl d_Mod_squeezes_51 ?_
              refine r_if_lt 56 88 rfl rfl d_Mod_squeezes_53 (fun h53 => ?_) (fun h53 => ?_)
              · refine r_iload rfl 90 rfl d_Mod_squeezes_88 ?_
                refine r_if_neN wN (by omega) 93 98 rfl rfl d_Mod_squeezes_90 (fun h90 => ?_) (fun h90 => ?_)
                · refine r_iload rfl 100 rfl d_Mod_squeezes_98 ?_
                  exact r_iret rfl (Nat.zero_le _) (Nat.zero_le _) d_Mod_squeezes_100 (by rw [← hQ]; exact ⟨t, by rw [show k = 0 from (neg1 k (by omega)).mp h53]; simp [R_squeezes, h6, epN, mpN, eqN, mqN, bpN, bqN, epq, h16, ewN, mwN, h23, h34, h90], rfl⟩)
                · subst h90
                  refine r_iload rfl 95 rfl d_Mod_squeezes_93 ?_
                  refine r_goto 100 rfl d_Mod_squeezes_95 ?_
                  exact r_iret rfl (Nat.zero_le _) (Nat.zero_le _) d_Mod_squeezes_100 (by rw [← hQ]; exact ⟨t, by rw [show k = 0 from (neg1 k (by omega)).mp h53]; simp [R_squeezes, h6, epN, mpN, eqN, mqN, bpN, bqN, epq, h16, ewN, mwN, h23, h34], rfl⟩)
              · obtain ⟨m, rfl⟩ : ∃ m, k = m + 1 := ⟨k - 1, by have : ¬ k = 0 := fun z => h53 ((neg1 k (by omega)).mpr z); omega⟩
                refine Runs.cast (ls' := [some (.ref (a 0)), some (.int (nI pN)), some (.int (nI qN)), some (.int s), some (.int (nI wN)), some (.int (nI ((sq (fun z => rdV x pN qN (σ 1 pN) (σ 2 pN) (σ 4) z (ν 6)) s (100 - (m + 1))).1))), some (.int ((sq (fun z => rdV x pN qN (σ 1 pN) (σ 2 pN) (σ 4) z (ν 6)) s (100 - (m + 1))).2)), some (.int (nI m))]) ?_ (by rw [sub1]) rfl rfl
                refine r_aload_n rfl 57 rfl d_Mod_squeezes_56 ?_
                refine r_iload_n rfl 58 rfl d_Mod_squeezes_57 ?_
                refine r_iload_n rfl 59 rfl d_Mod_squeezes_58 ?_
                refine r_iload rfl 61 rfl d_Mod_squeezes_59 ?_
                refine r_aload_n rfl 62 rfl d_Mod_squeezes_61 ?_
                refine r_getf (v := .int (nI (ν 6))) gf_Mod_240 0 rfl rfl 65 rfl d_Mod_squeezes_62 ?_
                refine r_callVAQ (st2 := []) (w2 := []) lk_Mod_readBy ln_Mod_243 (c_Mod_readBy X a ν (u2 σ 22 (t)) τ pN qN m (ν 6) (by omega) (by omega) (by omega) (by omega) x hx) (by first | decide | omega) rfl rfl (Nat.le_of_ble_eq_true rfl) (Nat.le_of_ble_eq_true rfl) (Nat.le_of_ble_eq_true rfl) 0 rfl rfl 68 rfl d_Mod_squeezes_65 (fun vv ww hq2 => ?_)
                obtain ⟨t2, rfl, rfl⟩ := hq2
                refine ⟨rfl, ?_⟩
                show Runs X 6 M_Mod_squeezes 0 0 Q 68 [some (.ref (a 0)), some (.int (nI pN)), some (.int (nI qN)), some (.int s), some (.int (nI wN)), some (.int (nI ((sq (fun z => rdV x pN qN (σ 1 pN) (σ 2 pN) (σ 4) z (ν 6)) s (100 - (m + 1))).1))), some (.int ((sq (fun z => rdV x pN qN (σ 1 pN) (σ 2 pN) (σ 4) z (ν 6)) s (100 - (m + 1))).2)), some (.int (nI m))] [.int (rdV x pN qN (σ 1 pN) (σ 2 pN) (σ 4) m (ν 6))] 0 0 (MW X a ν (u2 σ 22 t2) τ)
                refine r_iload_n rfl 69 rfl d_Mod_squeezes_68 ?_
                refine r_icmp_eq 72 75 rfl rfl d_Mod_squeezes_69 (fun h69 => ?_) (fun h69 => ?_)
                · refine r_iinc (ls2 := [some (.ref (a 0)), some (.int (nI pN)), some (.int (nI qN)), some (.int s), some (.int (nI wN)), some (.int (nI (((sq (fun z => rdV x pN qN (σ 1 pN) (σ 2 pN) (σ 4) z (ν 6)) s (100 - (m + 1))).1) + 1))), some (.int ((sq (fun z => rdV x pN qN (σ 1 pN) (σ 2 pN) (σ 4) z (ν 6)) s (100 - (m + 1))).2)), some (.int (nI m))]) (nI (((sq (fun z => rdV x pN qN (σ 1 pN) (σ 2 pN) (σ 4) z (ν 6)) s (100 - (m + 1))).1) + 1)) rfl (nI_1 _) 78 rfl d_Mod_squeezes_75 (by decide) rfl rfl ?_
                  refine r_iload rfl 80 rfl d_Mod_squeezes_78 ?_
                  refine r_istore (ls2 := [some (.ref (a 0)), some (.int (nI pN)), some (.int (nI qN)), some (.int s), some (.int (nI wN)), some (.int (nI (((sq (fun z => rdV x pN qN (σ 1 pN) (σ 2 pN) (σ 4) z (ν 6)) s (100 - (m + 1))).1) + 1))), some (.int (nI m)), some (.int (nI m))]) 82 rfl d_Mod_squeezes_80 (by decide) rfl rfl ?_
                  refine r_iinc (ls2 := [some (.ref (a 0)), some (.int (nI pN)), some (.int (nI qN)), some (.int s), some (.int (nI wN)), some (.int (nI (((sq (fun z => rdV x pN qN (σ 1 pN) (σ 2 pN) (σ 4) z (ν 6)) s (100 - (m + 1))).1) + 1))), some (.int (nI m)), some (.int ((nI m) + Int32.ofInt (-1)))]) ((nI m) + Int32.ofInt (-1)) rfl (rfl) 85 rfl d_Mod_squeezes_82 (by decide) rfl rfl ?_
                  refine r_goto 51 rfl d_Mod_squeezes_85 ?_
                  refine Runs.cast (ih2 m t2 (by omega) (by omega)) (by rw [dec1, sq_t (rd := (fun z => rdV x pN qN (σ 1 pN) (σ 2 pN) (σ 4) z (ν 6))) (m := m) (by omega) h69]; try rfl) rfl (rfl)
                · refine r_goto 82 rfl d_Mod_squeezes_72 ?_
                  refine r_iinc (ls2 := [some (.ref (a 0)), some (.int (nI pN)), some (.int (nI qN)), some (.int s), some (.int (nI wN)), some (.int (nI ((sq (fun z => rdV x pN qN (σ 1 pN) (σ 2 pN) (σ 4) z (ν 6)) s (100 - (m + 1))).1))), some (.int ((sq (fun z => rdV x pN qN (σ 1 pN) (σ 2 pN) (σ 4) z (ν 6)) s (100 - (m + 1))).2)), some (.int ((nI m) + Int32.ofInt (-1)))]) ((nI m) + Int32.ofInt (-1)) rfl (rfl) 85 rfl d_Mod_squeezes_82 (by decide) rfl rfl ?_
                  refine r_goto 51 rfl d_Mod_squeezes_85 ?_
                  refine Runs.cast (ih2 m t2 (by omega) (by omega)) (by rw [dec1, sq_f (rd := (fun z => rdV x pN qN (σ 1 pN) (σ 2 pN) (σ 4) z (ν 6))) (m := m) (by omega) h69]; try rfl) rfl (rfl)
          refine Runs.cast (L51_1 _ 100 (σ 22) (Nat.le_refl _) (Nat.lt_succ_self _)) (by rw [show nI 99 = nI 100 - nI 1 from by decide]; rfl) rfl (by rw [u2_self])
        · refine r_bipush ((-2)) rfl 39 rfl d_Mod_squeezes_37 ?_
          exact r_iret rfl (Nat.zero_le _) (Nat.zero_le _) d_Mod_squeezes_39 (by rw [← hQ]; exact ⟨σ 22, by simp [R_squeezes, h6, epN, mpN, eqN, mqN, bpN, bqN, epq, h16, ewN, mwN, h23, h34], by rw [u2_self]⟩)
    · refine r_iconst ((-1)) rfl 20 rfl d_Mod_squeezes_19 ?_
      exact r_iret rfl (Nat.zero_le _) (Nat.zero_le _) d_Mod_squeezes_20 (by rw [← hQ]; exact ⟨σ 22, by simp [R_squeezes, h6, epN, mpN, eqN, mqN, bpN, bqN, epq, h16], by rw [u2_self]⟩)
theorem c_Mod_isSo (X : Xn) (a ν : Nat → Nat) (σ : Nat → Nat → Int32) (τ : Nat → Int64) (hd9 : ν 6 ≤ 9999) (x : EX) (hx : heldX σ x) (hs5 : ν 23 ≤ 5) (hse : ∀ i, i < ν 23 → ∃ P R S0 D0 : Nat, P < 6 ∧ R < 6 ∧ S0 ≤ 99 ∧ D0 ≤ 20 ∧ σ 24 i = nI P ∧ σ 25 i = nI R ∧ σ 26 i = nI S0 ∧ σ 27 i = nI D0) (i : Nat) (hi : i < ν 23) : Does X 6 M_Mod_isSo [.ref (a 0), .int (nI i)] (MW X a ν σ τ) 0 0 (fun (vv : Option Value) (ww : va_W) => ∃ t : Nat → Int32, vv = some (.int (bI (soB x (σ 1) (σ 2) (σ 4) (ν 6) (σ 24) (σ 25) (σ 26) (σ 27) (σ 28) i))) ∧ ww = MW X a ν (u2 σ 22 t) τ) := by
  generalize hQ : (fun (vv : Option Value) (ww : va_W) => ∃ t : Nat → Int32, vv = some (.int (bI (soB x (σ 1) (σ 2) (σ 4) (ν 6) (σ 24) (σ 25) (σ 26) (σ 27) (σ 28) i))) ∧ ww = MW X a ν (u2 σ 22 t) τ) = Q
  refine Does.go rfl (Nat.le_of_ble_eq_true rfl) [some (.ref (a 0)), some (.int (nI i))] 0 rfl ?_
  refine r_aload_n rfl 1 rfl d_Mod_isSo_0 ?_
  refine r_aload_n rfl 2 rfl d_Mod_isSo_1 ?_
  refine r_getf (v := .ref (a 24)) gf_Mod_52 0 rfl rfl 5 rfl d_Mod_isSo_2 ?_
  refine r_iload_n rfl 6 rfl d_Mod_isSo_5 ?_
  refine r_iald (f := σ 24) 14 rfl i rfl (by omega) (by omega) 7 rfl d_Mod_isSo_6 ?_
  obtain ⟨P, R, S0, D0, hP, hR, hS0, hD0, eP, eR, eS, eD⟩ := hse i hi
  refine r_topi (nI P) (eP) ?_
  refine r_aload_n rfl 8 rfl d_Mod_isSo_7 ?_
  refine r_getf (v := .ref (a 25)) gf_Mod_55 0 rfl rfl 11 rfl d_Mod_isSo_8 ?_
  refine r_iload_n rfl 12 rfl d_Mod_isSo_11 ?_
  refine r_iald (f := σ 25) 15 rfl i rfl (by omega) (by omega) 13 rfl d_Mod_isSo_12 ?_
  refine r_topi (nI R) (eR) ?_
  refine r_aload_n rfl 14 rfl d_Mod_isSo_13 ?_
  refine r_getf (v := .ref (a 26)) gf_Mod_58 0 rfl rfl 17 rfl d_Mod_isSo_14 ?_
  refine r_iload_n rfl 18 rfl d_Mod_isSo_17 ?_
  refine r_iald (f := σ 26) 16 rfl i rfl (by omega) (by omega) 19 rfl d_Mod_isSo_18 ?_
  refine r_topi (nI S0) (eS) ?_
  refine r_aload_n rfl 20 rfl d_Mod_isSo_19 ?_
  refine r_getf (v := .int (nI (ν 6))) gf_Mod_240 0 rfl rfl 23 rfl d_Mod_isSo_20 ?_
  refine r_aload_n rfl 24 rfl d_Mod_isSo_23 ?_
  refine r_getf (v := .ref (a 27)) gf_Mod_61 0 rfl rfl 27 rfl d_Mod_isSo_24 ?_
  refine r_iload_n rfl 28 rfl d_Mod_isSo_27 ?_
  refine r_iald (f := σ 27) 17 rfl i rfl (by omega) (by omega) 29 rfl d_Mod_isSo_28 ?_
  refine r_topi (nI D0) (eD) ?_
  refine r_iadd 30 rfl d_Mod_isSo_29 ?_
  refine r_topi (nI ((ν 6) + D0)) (nI_add _ _) ?_
  refine r_callVAQ (st2 := []) (w2 := []) lk_Mod_readBy ln_Mod_243 (c_Mod_readBy X a ν σ τ P R S0 ((ν 6) + D0) (by omega) (by omega) (by omega) (by omega) x hx) (by first | decide | omega) rfl rfl (Nat.le_of_ble_eq_true rfl) (Nat.le_of_ble_eq_true rfl) (Nat.le_of_ble_eq_true rfl) 0 rfl rfl 33 rfl d_Mod_isSo_30 (fun vv ww hq2 => ?_)
  obtain ⟨t2, rfl, rfl⟩ := hq2
  refine ⟨rfl, ?_⟩
  show Runs X 6 M_Mod_isSo 0 0 Q 33 [some (.ref (a 0)), some (.int (nI i))] [.int (rdV x P R (σ 1 P) (σ 2 P) (σ 4) S0 ((ν 6) + D0))] 0 0 (MW X a ν (u2 σ 22 t2) τ)
  refine r_aload_n rfl 34 rfl d_Mod_isSo_33 ?_
  refine r_getf (v := .ref (a 28)) gf_Mod_64 0 rfl rfl 37 rfl d_Mod_isSo_34 ?_
  refine r_iload_n rfl 38 rfl d_Mod_isSo_37 ?_
  refine r_iald (f := σ 28) 18 rfl i rfl (by omega) (by omega) 39 rfl d_Mod_isSo_38 ?_
  refine r_icmp_ne 42 46 rfl rfl d_Mod_isSo_39 (fun h39 => ?_) (fun h39 => ?_)
  · refine r_iconst (nI 0) rfl 47 rfl d_Mod_isSo_46 ?_
    exact r_zret rfl (rfl) (Nat.zero_le _) (Nat.zero_le _) d_Mod_isSo_47 (by rw [← hQ]; exact ⟨t2, by rw [show soB x (σ 1) (σ 2) (σ 4) (ν 6) (σ 24) (σ 25) (σ 26) (σ 27) (σ 28) i = false from by simp only [soB, eP, eR, eS, eD, cn_nI (show P < 2 ^ 31 by omega), cn_nI (show R < 2 ^ 31 by omega), cn_nI (show S0 < 2 ^ 31 by omega), cn_nI (show D0 < 2 ^ 31 by omega)]; simp [h39]]; rfl, rfl⟩)
  · refine r_iconst (nI 1) rfl 43 rfl d_Mod_isSo_42 ?_
    refine r_goto 47 rfl d_Mod_isSo_43 ?_
    exact r_zret rfl (rfl) (Nat.zero_le _) (Nat.zero_le _) d_Mod_isSo_47 (by rw [← hQ]; exact ⟨t2, by rw [show soB x (σ 1) (σ 2) (σ 4) (ν 6) (σ 24) (σ 25) (σ 26) (σ 27) (σ 28) i = true from by simp only [soB, eP, eR, eS, eD, cn_nI (show P < 2 ^ 31 by omega), cn_nI (show R < 2 ^ 31 by omega), cn_nI (show S0 < 2 ^ 31 by omega), cn_nI (show D0 < 2 ^ 31 by omega)]; simp [h39]]; rfl, rfl⟩)
theorem c_Mod_wrong (X : Xn) (a ν : Nat → Nat) (σ : Nat → Nat → Int32) (τ : Nat → Int64) (hd9 : ν 6 ≤ 9999) (x : EX) (hx : heldX σ x) (hs5 : ν 23 ≤ 5) (hse : ∀ i, i < ν 23 → ∃ P R S0 D0 : Nat, P < 6 ∧ R < 6 ∧ S0 ≤ 99 ∧ D0 ≤ 20 ∧ σ 24 i = nI P ∧ σ 25 i = nI R ∧ σ 26 i = nI S0 ∧ σ 27 i = nI D0) : Does X 7 M_Mod_wrong [.ref (a 0)] (MW X a ν σ τ) 0 0 (fun (vv : Option Value) (ww : va_W) => ∃ t : Nat → Int32, vv = some (.int (wrF (fun z => soB x (σ 1) (σ 2) (σ 4) (ν 6) (σ 24) (σ 25) (σ 26) (σ 27) (σ 28) z) (ν 23) (ν 23))) ∧ ww = MW X a ν (u2 σ 22 t) τ) := by
  generalize hQ : (fun (vv : Option Value) (ww : va_W) => ∃ t : Nat → Int32, vv = some (.int (wrF (fun z => soB x (σ 1) (σ 2) (σ 4) (ν 6) (σ 24) (σ 25) (σ 26) (σ 27) (σ 28) z) (ν 23) (ν 23))) ∧ ww = MW X a ν (u2 σ 22 t) τ) = Q
  refine Does.go rfl (Nat.le_of_ble_eq_true rfl) [some (.ref (a 0)), none] 1 rfl ?_
  refine r_iconst (nI 0) rfl 1 rfl d_Mod_wrong_0 ?_
  refine r_istore_n (ls2 := [some (.ref (a 0)), some (.int (nI 0))]) 2 rfl d_Mod_wrong_1 (by decide) rfl rfl ?_
  have L2_1 : ∀ (f : Nat) (i : Nat) (t : Nat → Int32), (i ≤ ν 23) → (wrF (fun z => soB x (σ 1) (σ 2) (σ 4) (ν 6) (σ 24) (σ 25) (σ 26) (σ 27) (σ 28) z) (ν 23) (ν 23) = wrF (fun z => soB x (σ 1) (σ 2) (σ 4) (ν 6) (σ 24) (σ 25) (σ 26) (σ 27) (σ 28) z) (ν 23) (ν 23 - i)) → ν 23 - i < f → Runs X 7 M_Mod_wrong 0 0 Q 2 [some (.ref (a 0)), some (.int (nI i))] [] 0 0 (MW X a ν (u2 σ 22 (t)) τ) := by
    intro f
    induction f with
    | zero => intro i t hi hr hmu; exact absurd hmu (Nat.not_lt_zero _)
    | succ f ih2 =>
      intro i t hi hr hmu
      refine r_iload_n rfl 3 rfl d_Mod_wrong_2 ?_
      refine r_aload_n rfl 4 rfl d_Mod_wrong_3 ?_
      refine r_getf (v := .int (nI (ν 23))) gf_Mod_297 0 rfl rfl 7 rfl d_Mod_wrong_4 ?_
      refine r_icmp_geN i (ν 23) (by omega) (by omega) 10 26 rfl rfl d_Mod_wrong_7 (fun h7 => ?_) (fun h7 => ?_)
      · refine r_bipush ((-5)) rfl 28 rfl d_Mod_wrong_26 ?_
        exact r_iret rfl (Nat.zero_le _) (Nat.zero_le _) d_Mod_wrong_28 (by rw [← hQ]; exact ⟨t, by rw [hr, show ν 23 - i = 0 by omega]; rfl, rfl⟩)
      · refine r_aload_n rfl 11 rfl d_Mod_wrong_10 ?_
        refine r_iload_n rfl 12 rfl d_Mod_wrong_11 ?_
        refine r_callVAQ (st2 := []) (w2 := []) lk_Mod_isSo ln_Mod_300 (c_Mod_isSo X a ν (u2 σ 22 (t)) τ hd9 x hx hs5 hse i (by omega)) (by first | decide | omega) rfl rfl (Nat.le_of_ble_eq_true rfl) (Nat.le_of_ble_eq_true rfl) (Nat.le_of_ble_eq_true rfl) 0 rfl rfl 15 rfl d_Mod_wrong_12 (fun vv ww hq2 => ?_)
        obtain ⟨t2, rfl, rfl⟩ := hq2
        try rw [u2_u2]
        refine ⟨rfl, ?_⟩
        show Runs X 7 M_Mod_wrong 0 0 Q 15 [some (.ref (a 0)), some (.int (nI i))] [.int (bI (soB x (σ 1) (σ 2) (σ 4) (ν 6) (σ 24) (σ 25) (σ 26) (σ 27) (σ 28) i))] 0 0 (MW X a ν (u2 σ 22 t2) τ)
        refine r_if_neB 18 20 rfl rfl d_Mod_wrong_15 (fun h15 => ?_) (fun h15 => ?_)
        · refine r_iinc (ls2 := [some (.ref (a 0)), some (.int (nI (i + 1)))]) (nI (i + 1)) rfl (nI_1 _) 23 rfl d_Mod_wrong_20 (by decide) rfl rfl ?_
          refine r_goto 2 rfl d_Mod_wrong_23 ?_
          exact ih2 (i + 1) t2 (by omega) (by rw [hr, wrF_s h7, if_pos h15]) (by omega)
        · refine r_iload_n rfl 19 rfl d_Mod_wrong_18 ?_
          exact r_iret rfl (Nat.zero_le _) (Nat.zero_le _) d_Mod_wrong_19 (by rw [← hQ]; exact ⟨t2, by rw [hr, wrF_s h7, if_neg (by rw [h15]; decide)], rfl⟩)
  refine Runs.cast (L2_1 _ 0 (σ 22) (Nat.zero_le _) (rfl) (Nat.lt_succ_self _)) (rfl) rfl (by rw [u2_self])
theorem c_Mod_isAllSo (X : Xn) (a ν : Nat → Nat) (σ : Nat → Nat → Int32) (τ : Nat → Int64) (hd9 : ν 6 ≤ 9999) (x : EX) (hx : heldX σ x) (hs5 : ν 23 ≤ 5) (hse : ∀ i, i < ν 23 → ∃ P R S0 D0 : Nat, P < 6 ∧ R < 6 ∧ S0 ≤ 99 ∧ D0 ≤ 20 ∧ σ 24 i = nI P ∧ σ 25 i = nI R ∧ σ 26 i = nI S0 ∧ σ 27 i = nI D0) (p : Nat) (hp : p < 6) : Does X 7 M_Mod_isAllSo [.ref (a 0), .int (nI p)] (MW X a ν σ τ) 0 0 (fun (vv : Option Value) (ww : va_W) => ∃ t : Nat → Int32, vv = some (.int (bI (allU (fun z => soB x (σ 1) (σ 2) (σ 4) (ν 6) (σ 24) (σ 25) (σ 26) (σ 27) (σ 28) z) (σ 24) p (ν 23) (ν 23)))) ∧ ww = MW X a ν (u2 σ 22 t) τ) := by
  generalize hQ : (fun (vv : Option Value) (ww : va_W) => ∃ t : Nat → Int32, vv = some (.int (bI (allU (fun z => soB x (σ 1) (σ 2) (σ 4) (ν 6) (σ 24) (σ 25) (σ 26) (σ 27) (σ 28) z) (σ 24) p (ν 23) (ν 23)))) ∧ ww = MW X a ν (u2 σ 22 t) τ) = Q
  refine Does.go rfl (Nat.le_of_ble_eq_true rfl) [some (.ref (a 0)), some (.int (nI p)), none] 1 rfl ?_
  refine r_iconst (nI 0) rfl 1 rfl d_Mod_isAllSo_0 ?_
  refine r_istore_n (ls2 := [some (.ref (a 0)), some (.int (nI p)), some (.int (nI 0))]) 2 rfl d_Mod_isAllSo_1 (by decide) rfl rfl ?_
  have L2_1 : ∀ (f : Nat) (i : Nat) (t : Nat → Int32), (i ≤ ν 23) → (allU (fun z => soB x (σ 1) (σ 2) (σ 4) (ν 6) (σ 24) (σ 25) (σ 26) (σ 27) (σ 28) z) (σ 24) p (ν 23) (ν 23) = allU (fun z => soB x (σ 1) (σ 2) (σ 4) (ν 6) (σ 24) (σ 25) (σ 26) (σ 27) (σ 28) z) (σ 24) p (ν 23) (ν 23 - i)) → ν 23 - i < f → Runs X 7 M_Mod_isAllSo 0 0 Q 2 [some (.ref (a 0)), some (.int (nI p)), some (.int (nI i))] [] 0 0 (MW X a ν (u2 σ 22 (t)) τ) := by
    intro f
    induction f with
    | zero => intro i t hi hr hmu; exact absurd hmu (Nat.not_lt_zero _)
    | succ f ih2 =>
      intro i t hi hr hmu
      refine r_iload_n rfl 3 rfl d_Mod_isAllSo_2 ?_
      refine r_aload_n rfl 4 rfl d_Mod_isAllSo_3 ?_
      refine r_getf (v := .int (nI (ν 23))) gf_Mod_297 0 rfl rfl 7 rfl d_Mod_isAllSo_4 ?_
      refine r_icmp_geN i (ν 23) (by omega) (by omega) 10 36 rfl rfl d_Mod_isAllSo_7 (fun h7 => ?_) (fun h7 => ?_)
      · refine r_iconst (nI 1) rfl 37 rfl d_Mod_isAllSo_36 ?_
        exact r_zret rfl (rfl) (Nat.zero_le _) (Nat.zero_le _) d_Mod_isAllSo_37 (by rw [← hQ]; exact ⟨t, by rw [hr, show ν 23 - i = 0 by omega]; rfl, rfl⟩)
      · refine r_aload_n rfl 11 rfl d_Mod_isAllSo_10 ?_
        refine r_getf (v := .ref (a 24)) gf_Mod_52 0 rfl rfl 14 rfl d_Mod_isAllSo_11 ?_
        refine r_iload_n rfl 15 rfl d_Mod_isAllSo_14 ?_
        refine r_iald (f := σ 24) 14 rfl i rfl (by omega) (by omega) 16 rfl d_Mod_isAllSo_15 ?_
        obtain ⟨P, R, S0, D0, hP, hR, hS0, hD0, eP, eR, eS, eD⟩ := hse i (by omega)
        refine r_topi (nI P) eP ?_
        refine r_iload_n rfl 17 rfl d_Mod_isAllSo_16 ?_
        refine r_icmp_neN P p (by omega) (by omega) 20 30 rfl rfl d_Mod_isAllSo_17 (fun h17 => ?_) (fun h17 => ?_)
        · refine r_iinc (ls2 := [some (.ref (a 0)), some (.int (nI p)), some (.int (nI (i + 1)))]) (nI (i + 1)) rfl (nI_1 _) 33 rfl d_Mod_isAllSo_30 (by decide) rfl rfl ?_
          refine r_goto 2 rfl d_Mod_isAllSo_33 ?_
          exact ih2 (i + 1) t (by omega) (by rw [hr, allSo_t (i := i) (by omega) (Or.inl (by rw [eP]; exact fun z => h17 ((nI_eq (by omega) (by omega)).mp z)))]) (by omega)
        · refine r_aload_n rfl 21 rfl d_Mod_isAllSo_20 ?_
          refine r_iload_n rfl 22 rfl d_Mod_isAllSo_21 ?_
          refine r_callVAQ (st2 := []) (w2 := []) lk_Mod_isSo ln_Mod_300 (c_Mod_isSo X a ν (u2 σ 22 (t)) τ hd9 x hx hs5 hse i (by omega)) (by first | decide | omega) rfl rfl (Nat.le_of_ble_eq_true rfl) (Nat.le_of_ble_eq_true rfl) (Nat.le_of_ble_eq_true rfl) 0 rfl rfl 25 rfl d_Mod_isAllSo_22 (fun vv ww hq2 => ?_)
          obtain ⟨t2, rfl, rfl⟩ := hq2
          try rw [u2_u2]
          refine ⟨rfl, ?_⟩
          show Runs X 7 M_Mod_isAllSo 0 0 Q 25 [some (.ref (a 0)), some (.int (nI p)), some (.int (nI i))] [.int (bI (soB x (σ 1) (σ 2) (σ 4) (ν 6) (σ 24) (σ 25) (σ 26) (σ 27) (σ 28) i))] 0 0 (MW X a ν (u2 σ 22 t2) τ)
          refine r_if_neB 28 30 rfl rfl d_Mod_isAllSo_25 (fun h25 => ?_) (fun h25 => ?_)
          · refine r_iinc (ls2 := [some (.ref (a 0)), some (.int (nI p)), some (.int (nI (i + 1)))]) (nI (i + 1)) rfl (nI_1 _) 33 rfl d_Mod_isAllSo_30 (by decide) rfl rfl ?_
            refine r_goto 2 rfl d_Mod_isAllSo_33 ?_
            exact ih2 (i + 1) t2 (by omega) (by rw [hr, allSo_t (i := i) (by omega) (Or.inr h25)]) (by omega)
          · refine r_iconst (nI 0) rfl 29 rfl d_Mod_isAllSo_28 ?_
            exact r_zret rfl (rfl) (Nat.zero_le _) (Nat.zero_le _) d_Mod_isAllSo_29 (by rw [← hQ]; exact ⟨t2, by rw [hr, allSo_f (i := i) (by omega) (by rw [eP, h17]) h25]; rfl, rfl⟩)
  refine Runs.cast (L2_1 _ 0 (σ 22) (Nat.zero_le _) (rfl) (Nat.lt_succ_self _)) (rfl) rfl (by rw [u2_self])
