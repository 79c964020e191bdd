def M_Mod_ends : XM := (⟨"HandshakeBindsModel", "ends", "(I)I"⟩, prog_11_method_59_code, 5, (some .int))
theorem d_Mod_ends_0 : decode M_Mod_ends.2.1 0 = .ok (.iload_n 1, 1) := by decide +kernel
theorem d_Mod_ends_1 : decode M_Mod_ends.2.1 1 = .ok (.iconst 0, 1) := by decide +kernel
theorem d_Mod_ends_2 : decode M_Mod_ends.2.1 2 = .ok (.iconst 1, 1) := by decide +kernel
theorem d_Mod_ends_3 : decode M_Mod_ends.2.1 3 = .ok (.invokestatic 114, 3) := by decide +kernel
theorem d_Mod_ends_6 : decode M_Mod_ends.2.1 6 = .ok (.ifCond .ne 5, 3) := by decide +kernel
theorem d_Mod_ends_11 : decode M_Mod_ends.2.1 11 = .ok (.aload_n 0, 1) := by decide +kernel
theorem d_Mod_ends_12 : decode M_Mod_ends.2.1 12 = .ok (.aload_n 0, 1) := by decide +kernel
theorem d_Mod_ends_13 : decode M_Mod_ends.2.1 13 = .ok (.getfield 88, 3) := by decide +kernel
theorem d_Mod_ends_16 : decode M_Mod_ends.2.1 16 = .ok (.invokevirtual 254, 3) := by decide +kernel
theorem d_Mod_ends_19 : decode M_Mod_ends.2.1 19 = .ok (.iconst 0, 1) := by decide +kernel
theorem d_Mod_ends_20 : decode M_Mod_ends.2.1 20 = .ok (.istore_n 2, 1) := by decide +kernel
theorem d_Mod_ends_21 : decode M_Mod_ends.2.1 21 = .ok (.iload_n 2, 1) := by decide +kernel
theorem d_Mod_ends_22 : decode M_Mod_ends.2.1 22 = .ok (.aload_n 0, 1) := by decide +kernel
theorem d_Mod_ends_23 : decode M_Mod_ends.2.1 23 = .ok (.getfield 312, 3) := by decide +kernel
theorem d_Mod_ends_26 : decode M_Mod_ends.2.1 26 = .ok (.if_icmp .ge 107, 3) := by decide +kernel
theorem d_Mod_ends_133 : decode M_Mod_ends.2.1 133 = .ok (.iload_n 1, 1) := by decide +kernel
theorem d_Mod_ends_134 : decode M_Mod_ends.2.1 134 = .ok (.ifCond .ne 10, 3) := by decide +kernel
theorem d_Mod_ends_144 : decode M_Mod_ends.2.1 144 = .ok (.aload_n 0, 1) := by decide +kernel
theorem d_Mod_ends_145 : decode M_Mod_ends.2.1 145 = .ok (.iconst 0, 1) := by decide +kernel
theorem d_Mod_ends_146 : decode M_Mod_ends.2.1 146 = .ok (.invokevirtual 134, 3) := by decide +kernel
theorem d_Mod_ends_149 : decode M_Mod_ends.2.1 149 = .ok (.istore_n 2, 1) := by decide +kernel
theorem d_Mod_ends_150 : decode M_Mod_ends.2.1 150 = .ok (.aload_n 0, 1) := by decide +kernel
theorem d_Mod_ends_151 : decode M_Mod_ends.2.1 151 = .ok (.aload_n 0, 1) := by decide +kernel
theorem d_Mod_ends_152 : decode M_Mod_ends.2.1 152 = .ok (.getfield 88, 3) := by decide +kernel
theorem d_Mod_ends_155 : decode M_Mod_ends.2.1 155 = .ok (.invokevirtual 259, 3) := by decide +kernel
theorem d_Mod_ends_158 : decode M_Mod_ends.2.1 158 = .ok (.iload_n 2, 1) := by decide +kernel
theorem d_Mod_ends_159 : decode M_Mod_ends.2.1 159 = .ok (.ireturn, 1) := by decide +kernel
theorem d_Mod_ends_137 : decode M_Mod_ends.2.1 137 = .ok (.aload_n 0, 1) := by decide +kernel
theorem d_Mod_ends_138 : decode M_Mod_ends.2.1 138 = .ok (.invokevirtual 294, 3) := by decide +kernel
theorem ln_Mod_294 : Cond.methodLink "HandshakeBindsModel" 294 M_Mod_allDebt.1 ∈ TB := inTB 1249 (by decide +kernel) rfl
theorem lk_Mod_allDebt : LVt M_Mod_allDebt 0 := ⟨⟨inTB 72 (by decide +kernel) rfl, inTB 1252 (by decide +kernel) rfl, ⟨by decide, by decide, by decide +kernel⟩, by decide⟩, inTB 1251 (by decide +kernel) rfl, inTB 53 (by decide +kernel) rfl⟩
theorem d_Mod_ends_141 : decode M_Mod_ends.2.1 141 = .ok (.goto 8, 3) := by decide +kernel
theorem d_Mod_ends_29 : decode M_Mod_ends.2.1 29 = .ok (.aload_n 0, 1) := by decide +kernel
theorem d_Mod_ends_30 : decode M_Mod_ends.2.1 30 = .ok (.getfield 70, 3) := by decide +kernel
theorem d_Mod_ends_33 : decode M_Mod_ends.2.1 33 = .ok (.iload_n 2, 1) := by decide +kernel
theorem d_Mod_ends_34 : decode M_Mod_ends.2.1 34 = .ok (.iaload, 1) := by decide +kernel
theorem d_Mod_ends_35 : decode M_Mod_ends.2.1 35 = .ok (.istore_n 3, 1) := by decide +kernel
theorem d_Mod_ends_36 : decode M_Mod_ends.2.1 36 = .ok (.aload_n 0, 1) := by decide +kernel
theorem d_Mod_ends_37 : decode M_Mod_ends.2.1 37 = .ok (.getfield 67, 3) := by decide +kernel
theorem d_Mod_ends_40 : decode M_Mod_ends.2.1 40 = .ok (.iload_n 2, 1) := by decide +kernel
theorem d_Mod_ends_41 : decode M_Mod_ends.2.1 41 = .ok (.iaload, 1) := by decide +kernel
theorem d_Mod_ends_42 : decode M_Mod_ends.2.1 42 = .ok (.ifCond .ne 16, 3) := by decide +kernel
theorem d_Mod_ends_58 : decode M_Mod_ends.2.1 58 = .ok (.aload_n 0, 1) := by decide +kernel
theorem d_Mod_ends_59 : decode M_Mod_ends.2.1 59 = .ok (.getfield 67, 3) := by decide +kernel
theorem d_Mod_ends_62 : decode M_Mod_ends.2.1 62 = .ok (.iload_n 2, 1) := by decide +kernel
theorem d_Mod_ends_63 : decode M_Mod_ends.2.1 63 = .ok (.iaload, 1) := by decide +kernel
theorem d_Mod_ends_64 : decode M_Mod_ends.2.1 64 = .ok (.iconst 1, 1) := by decide +kernel
theorem d_Mod_ends_65 : decode M_Mod_ends.2.1 65 = .ok (.if_icmp .ne 11, 3) := by decide +kernel
theorem d_Mod_ends_76 : decode M_Mod_ends.2.1 76 = .ok (.iconst 0, 1) := by decide +kernel
theorem d_Mod_ends_77 : decode M_Mod_ends.2.1 77 = .ok (.istore 4, 2) := by decide +kernel
theorem d_Mod_ends_79 : decode M_Mod_ends.2.1 79 = .ok (.iload 4, 2) := by decide +kernel
theorem d_Mod_ends_81 : decode M_Mod_ends.2.1 81 = .ok (.aload_n 0, 1) := by decide +kernel
theorem d_Mod_ends_82 : decode M_Mod_ends.2.1 82 = .ok (.getfield 111, 3) := by decide +kernel
theorem d_Mod_ends_85 : decode M_Mod_ends.2.1 85 = .ok (.if_icmp .ge 42, 3) := by decide +kernel
theorem d_Mod_ends_127 : decode M_Mod_ends.2.1 127 = .ok (.iinc 2 1, 3) := by decide +kernel
theorem d_Mod_ends_130 : decode M_Mod_ends.2.1 130 = .ok (.goto (-109), 3) := by decide +kernel
theorem d_Mod_ends_88 : decode M_Mod_ends.2.1 88 = .ok (.aload_n 0, 1) := by decide +kernel
theorem d_Mod_ends_89 : decode M_Mod_ends.2.1 89 = .ok (.getfield 24, 3) := by decide +kernel
theorem d_Mod_ends_92 : decode M_Mod_ends.2.1 92 = .ok (.aload_n 0, 1) := by decide +kernel
theorem d_Mod_ends_93 : decode M_Mod_ends.2.1 93 = .ok (.getfield 67, 3) := by decide +kernel
theorem d_Mod_ends_96 : decode M_Mod_ends.2.1 96 = .ok (.iload_n 2, 1) := by decide +kernel
theorem d_Mod_ends_97 : decode M_Mod_ends.2.1 97 = .ok (.iaload, 1) := by decide +kernel
theorem d_Mod_ends_98 : decode M_Mod_ends.2.1 98 = .ok (.iconst 2, 1) := by decide +kernel
theorem d_Mod_ends_99 : decode M_Mod_ends.2.1 99 = .ok (.if_icmp .ne 13, 3) := by decide +kernel
theorem d_Mod_ends_102 : decode M_Mod_ends.2.1 102 = .ok (.bipush 6, 2) := by decide +kernel
theorem d_Mod_ends_104 : decode M_Mod_ends.2.1 104 = .ok (.iload_n 3, 1) := by decide +kernel
theorem d_Mod_ends_105 : decode M_Mod_ends.2.1 105 = .ok (.imul, 1) := by decide +kernel
theorem d_Mod_ends_106 : decode M_Mod_ends.2.1 106 = .ok (.iload 4, 2) := by decide +kernel
theorem d_Mod_ends_108 : decode M_Mod_ends.2.1 108 = .ok (.iadd, 1) := by decide +kernel
theorem d_Mod_ends_109 : decode M_Mod_ends.2.1 109 = .ok (.goto 10, 3) := by decide +kernel
theorem d_Mod_ends_119 : decode M_Mod_ends.2.1 119 = .ok (.iconst 0, 1) := by decide +kernel
theorem d_Mod_ends_120 : decode M_Mod_ends.2.1 120 = .ok (.iastore, 1) := by decide +kernel
theorem d_Mod_ends_121 : decode M_Mod_ends.2.1 121 = .ok (.iinc 4 1, 3) := by decide +kernel
theorem d_Mod_ends_124 : decode M_Mod_ends.2.1 124 = .ok (.goto (-45), 3) := by decide +kernel
theorem d_Mod_ends_112 : decode M_Mod_ends.2.1 112 = .ok (.bipush 6, 2) := by decide +kernel
theorem d_Mod_ends_114 : decode M_Mod_ends.2.1 114 = .ok (.iload 4, 2) := by decide +kernel
theorem d_Mod_ends_116 : decode M_Mod_ends.2.1 116 = .ok (.imul, 1) := by decide +kernel
theorem d_Mod_ends_117 : decode M_Mod_ends.2.1 117 = .ok (.iload_n 3, 1) := by decide +kernel
theorem d_Mod_ends_118 : decode M_Mod_ends.2.1 118 = .ok (.iadd, 1) := by decide +kernel
theorem d_Mod_ends_68 : decode M_Mod_ends.2.1 68 = .ok (.aload_n 0, 1) := by decide +kernel
theorem d_Mod_ends_69 : decode M_Mod_ends.2.1 69 = .ok (.iload_n 3, 1) := by decide +kernel
theorem d_Mod_ends_70 : decode M_Mod_ends.2.1 70 = .ok (.invokevirtual 315, 3) := by decide +kernel
theorem ln_Mod_315 : Cond.methodLink "HandshakeBindsModel" 315 M_Mod_paysAll.1 ∈ TB := inTB 1297 (by decide +kernel) rfl
theorem lk_Mod_paysAll : LVt M_Mod_paysAll 1 := ⟨⟨inTB 72 (by decide +kernel) rfl, inTB 1300 (by decide +kernel) rfl, ⟨by decide, by decide, by decide +kernel⟩, by decide⟩, inTB 1299 (by decide +kernel) rfl, inTB 56 (by decide +kernel) rfl⟩
theorem d_Mod_ends_73 : decode M_Mod_ends.2.1 73 = .ok (.goto 54, 3) := by decide +kernel
theorem d_Mod_ends_45 : decode M_Mod_ends.2.1 45 = .ok (.aload_n 0, 1) := by decide +kernel
theorem d_Mod_ends_46 : decode M_Mod_ends.2.1 46 = .ok (.dup, 1) := by decide +kernel
theorem d_Mod_ends_47 : decode M_Mod_ends.2.1 47 = .ok (.getfield 240, 3) := by decide +kernel
theorem d_Mod_ends_50 : decode M_Mod_ends.2.1 50 = .ok (.iconst 1, 1) := by decide +kernel
theorem d_Mod_ends_51 : decode M_Mod_ends.2.1 51 = .ok (.iadd, 1) := by decide +kernel
theorem d_Mod_ends_52 : decode M_Mod_ends.2.1 52 = .ok (.putfield 240, 3) := by decide +kernel
theorem d_Mod_ends_55 : decode M_Mod_ends.2.1 55 = .ok (.goto 72, 3) := by decide +kernel
theorem d_Mod_ends_9 : decode M_Mod_ends.2.1 9 = .ok (.iconst (-1), 1) := by decide +kernel
theorem d_Mod_ends_10 : decode M_Mod_ends.2.1 10 = .ok (.ireturn, 1) := by decide +kernel
def M_Mod_judge : XM := (⟨"HandshakeBindsModel", "judge", "(II)I"⟩, prog_11_method_62_code, 4, (some .int))
theorem d_Mod_judge_0 : decode M_Mod_judge.2.1 0 = .ok (.iload_n 1, 1) := by decide +kernel
theorem d_Mod_judge_1 : decode M_Mod_judge.2.1 1 = .ok (.iconst 0, 1) := by decide +kernel
theorem d_Mod_judge_2 : decode M_Mod_judge.2.1 2 = .ok (.iconst 5, 1) := by decide +kernel
theorem d_Mod_judge_3 : decode M_Mod_judge.2.1 3 = .ok (.invokestatic 114, 3) := by decide +kernel
theorem d_Mod_judge_6 : decode M_Mod_judge.2.1 6 = .ok (.ifCond .ne 5, 3) := by decide +kernel
theorem d_Mod_judge_11 : decode M_Mod_judge.2.1 11 = .ok (.aload_n 0, 1) := by decide +kernel
theorem d_Mod_judge_12 : decode M_Mod_judge.2.1 12 = .ok (.getfield 97, 3) := by decide +kernel
theorem d_Mod_judge_15 : decode M_Mod_judge.2.1 15 = .ok (.iload_n 1, 1) := by decide +kernel
theorem d_Mod_judge_16 : decode M_Mod_judge.2.1 16 = .ok (.iaload, 1) := by decide +kernel
theorem d_Mod_judge_17 : decode M_Mod_judge.2.1 17 = .ok (.iconst (-1), 1) := by decide +kernel
theorem d_Mod_judge_18 : decode M_Mod_judge.2.1 18 = .ok (.if_icmp .eq 16, 3) := by decide +kernel
theorem d_Mod_judge_34 : decode M_Mod_judge.2.1 34 = .ok (.iconst 0, 1) := by decide +kernel
theorem d_Mod_judge_35 : decode M_Mod_judge.2.1 35 = .ok (.istore_n 3, 1) := by decide +kernel
theorem d_Mod_judge_36 : decode M_Mod_judge.2.1 36 = .ok (.iload_n 3, 1) := by decide +kernel
theorem d_Mod_judge_37 : decode M_Mod_judge.2.1 37 = .ok (.aload_n 0, 1) := by decide +kernel
theorem d_Mod_judge_38 : decode M_Mod_judge.2.1 38 = .ok (.getfield 111, 3) := by decide +kernel
theorem d_Mod_judge_41 : decode M_Mod_judge.2.1 41 = .ok (.if_icmp .ge 69, 3) := by decide +kernel
theorem d_Mod_judge_110 : decode M_Mod_judge.2.1 110 = .ok (.bipush (-5), 2) := by decide +kernel
theorem d_Mod_judge_112 : decode M_Mod_judge.2.1 112 = .ok (.ireturn, 1) := by decide +kernel
theorem d_Mod_judge_44 : decode M_Mod_judge.2.1 44 = .ok (.aload_n 0, 1) := by decide +kernel
theorem d_Mod_judge_45 : decode M_Mod_judge.2.1 45 = .ok (.getfield 97, 3) := by decide +kernel
theorem d_Mod_judge_48 : decode M_Mod_judge.2.1 48 = .ok (.iload_n 1, 1) := by decide +kernel
theorem d_Mod_judge_49 : decode M_Mod_judge.2.1 49 = .ok (.iaload, 1) := by decide +kernel
theorem d_Mod_judge_50 : decode M_Mod_judge.2.1 50 = .ok (.iconst (-1), 1) := by decide +kernel
theorem d_Mod_judge_51 : decode M_Mod_judge.2.1 51 = .ok (.if_icmp .eq 23, 3) := by decide +kernel
theorem d_Mod_judge_74 : decode M_Mod_judge.2.1 74 = .ok (.bipush 100, 2) := by decide +kernel
theorem d_Mod_judge_76 : decode M_Mod_judge.2.1 76 = .ok (.iload_n 3, 1) := by decide +kernel
theorem d_Mod_judge_77 : decode M_Mod_judge.2.1 77 = .ok (.iadd, 1) := by decide +kernel
theorem d_Mod_judge_78 : decode M_Mod_judge.2.1 78 = .ok (.ireturn, 1) := by decide +kernel
theorem d_Mod_judge_54 : decode M_Mod_judge.2.1 54 = .ok (.iload_n 2, 1) := by decide +kernel
theorem d_Mod_judge_55 : decode M_Mod_judge.2.1 55 = .ok (.ifCond .lt 19, 3) := by decide +kernel
theorem d_Mod_judge_58 : decode M_Mod_judge.2.1 58 = .ok (.iload_n 2, 1) := by decide +kernel
theorem d_Mod_judge_59 : decode M_Mod_judge.2.1 59 = .ok (.i2l, 1) := by decide +kernel
theorem d_Mod_judge_60 : decode M_Mod_judge.2.1 60 = .ok (.iload_n 3, 1) := by decide +kernel
theorem d_Mod_judge_61 : decode M_Mod_judge.2.1 61 = .ok (.i2l, 1) := by decide +kernel
theorem d_Mod_judge_62 : decode M_Mod_judge.2.1 62 = .ok (.ladd, 1) := by decide +kernel
theorem d_Mod_judge_63 : decode M_Mod_judge.2.1 63 = .ok (.aload_n 0, 1) := by decide +kernel
theorem d_Mod_judge_64 : decode M_Mod_judge.2.1 64 = .ok (.getfield 100, 3) := by decide +kernel
theorem d_Mod_judge_67 : decode M_Mod_judge.2.1 67 = .ok (.iload_n 1, 1) := by decide +kernel
theorem d_Mod_judge_68 : decode M_Mod_judge.2.1 68 = .ok (.iaload, 1) := by decide +kernel
theorem d_Mod_judge_69 : decode M_Mod_judge.2.1 69 = .ok (.i2l, 1) := by decide +kernel
theorem d_Mod_judge_70 : decode M_Mod_judge.2.1 70 = .ok (.lcmp, 1) := by decide +kernel
theorem d_Mod_judge_71 : decode M_Mod_judge.2.1 71 = .ok (.ifCond .lt 8, 3) := by decide +kernel
theorem d_Mod_judge_79 : decode M_Mod_judge.2.1 79 = .ok (.aload_n 0, 1) := by decide +kernel
theorem d_Mod_judge_80 : decode M_Mod_judge.2.1 80 = .ok (.getfield 103, 3) := by decide +kernel
theorem d_Mod_judge_83 : decode M_Mod_judge.2.1 83 = .ok (.bipush 60, 2) := by decide +kernel
theorem d_Mod_judge_85 : decode M_Mod_judge.2.1 85 = .ok (.iload_n 1, 1) := by decide +kernel
theorem d_Mod_judge_86 : decode M_Mod_judge.2.1 86 = .ok (.imul, 1) := by decide +kernel
theorem d_Mod_judge_87 : decode M_Mod_judge.2.1 87 = .ok (.iload_n 2, 1) := by decide +kernel
theorem d_Mod_judge_88 : decode M_Mod_judge.2.1 88 = .ok (.iadd, 1) := by decide +kernel
theorem d_Mod_judge_89 : decode M_Mod_judge.2.1 89 = .ok (.iload_n 3, 1) := by decide +kernel
theorem d_Mod_judge_90 : decode M_Mod_judge.2.1 90 = .ok (.iadd, 1) := by decide +kernel
theorem d_Mod_judge_91 : decode M_Mod_judge.2.1 91 = .ok (.laload, 1) := by decide +kernel
theorem d_Mod_judge_92 : decode M_Mod_judge.2.1 92 = .ok (.aload_n 0, 1) := by decide +kernel
theorem d_Mod_judge_93 : decode M_Mod_judge.2.1 93 = .ok (.iload_n 3, 1) := by decide +kernel
theorem d_Mod_judge_94 : decode M_Mod_judge.2.1 94 = .ok (.invokevirtual 131, 3) := by decide +kernel
theorem d_Mod_judge_97 : decode M_Mod_judge.2.1 97 = .ok (.i2l, 1) := by decide +kernel
theorem d_Mod_judge_98 : decode M_Mod_judge.2.1 98 = .ok (.lcmp, 1) := by decide +kernel
theorem d_Mod_judge_99 : decode M_Mod_judge.2.1 99 = .ok (.ifCond .eq 5, 3) := by decide +kernel
theorem d_Mod_judge_104 : decode M_Mod_judge.2.1 104 = .ok (.iinc 3 1, 3) := by decide +kernel
theorem d_Mod_judge_107 : decode M_Mod_judge.2.1 107 = .ok (.goto (-71), 3) := by decide +kernel
theorem d_Mod_judge_102 : decode M_Mod_judge.2.1 102 = .ok (.iload_n 3, 1) := by decide +kernel
theorem d_Mod_judge_103 : decode M_Mod_judge.2.1 103 = .ok (.ireturn, 1) := by decide +kernel
theorem d_Mod_judge_21 : decode M_Mod_judge.2.1 21 = .ok (.aload_n 0, 1) := by decide +kernel
theorem d_Mod_judge_22 : decode M_Mod_judge.2.1 22 = .ok (.getfield 97, 3) := by decide +kernel
theorem d_Mod_judge_25 : decode M_Mod_judge.2.1 25 = .ok (.iload_n 1, 1) := by decide +kernel
theorem d_Mod_judge_26 : decode M_Mod_judge.2.1 26 = .ok (.iaload, 1) := by decide +kernel
theorem d_Mod_judge_27 : decode M_Mod_judge.2.1 27 = .ok (.iconst 2, 1) := by decide +kernel
theorem d_Mod_judge_28 : decode M_Mod_judge.2.1 28 = .ok (.if_icmp .eq 6, 3) := by decide +kernel
theorem d_Mod_judge_31 : decode M_Mod_judge.2.1 31 = .ok (.bipush (-12), 2) := by decide +kernel
theorem d_Mod_judge_33 : decode M_Mod_judge.2.1 33 = .ok (.ireturn, 1) := by decide +kernel
theorem d_Mod_judge_9 : decode M_Mod_judge.2.1 9 = .ok (.iconst (-1), 1) := by decide +kernel
theorem d_Mod_judge_10 : decode M_Mod_judge.2.1 10 = .ok (.ireturn, 1) := by decide +kernel
def M_Mod_shift : XM := (⟨"HandshakeBindsModel", "shift", "(IIIII)I"⟩, prog_11_method_81_code, 7, (some .int))
theorem d_Mod_shift_0 : decode M_Mod_shift.2.1 0 = .ok (.iload_n 1, 1) := by decide +kernel
theorem d_Mod_shift_1 : decode M_Mod_shift.2.1 1 = .ok (.invokestatic 345, 3) := by decide +kernel
theorem d_Mod_shift_4 : decode M_Mod_shift.2.1 4 = .ok (.ifCond .eq 10, 3) := by decide +kernel
theorem d_Mod_shift_14 : decode M_Mod_shift.2.1 14 = .ok (.iconst (-1), 1) := by decide +kernel
theorem d_Mod_shift_15 : decode M_Mod_shift.2.1 15 = .ok (.ireturn, 1) := by decide +kernel
theorem d_Mod_shift_7 : decode M_Mod_shift.2.1 7 = .ok (.iload_n 3, 1) := by decide +kernel
theorem d_Mod_shift_8 : decode M_Mod_shift.2.1 8 = .ok (.invokestatic 345, 3) := by decide +kernel
theorem d_Mod_shift_11 : decode M_Mod_shift.2.1 11 = .ok (.ifCond .ne 5, 3) := by decide +kernel
theorem d_Mod_shift_16 : decode M_Mod_shift.2.1 16 = .ok (.aload_n 0, 1) := by decide +kernel
theorem d_Mod_shift_17 : decode M_Mod_shift.2.1 17 = .ok (.getfield 97, 3) := by decide +kernel
theorem d_Mod_shift_20 : decode M_Mod_shift.2.1 20 = .ok (.iload_n 1, 1) := by decide +kernel
theorem d_Mod_shift_21 : decode M_Mod_shift.2.1 21 = .ok (.iaload, 1) := by decide +kernel
theorem d_Mod_shift_22 : decode M_Mod_shift.2.1 22 = .ok (.ifCond .lt 12, 3) := by decide +kernel
theorem d_Mod_shift_34 : decode M_Mod_shift.2.1 34 = .ok (.bipush (-11), 2) := by decide +kernel
theorem d_Mod_shift_36 : decode M_Mod_shift.2.1 36 = .ok (.ireturn, 1) := by decide +kernel
theorem d_Mod_shift_25 : decode M_Mod_shift.2.1 25 = .ok (.aload_n 0, 1) := by decide +kernel
theorem d_Mod_shift_26 : decode M_Mod_shift.2.1 26 = .ok (.getfield 97, 3) := by decide +kernel
theorem d_Mod_shift_29 : decode M_Mod_shift.2.1 29 = .ok (.iload_n 3, 1) := by decide +kernel
theorem d_Mod_shift_30 : decode M_Mod_shift.2.1 30 = .ok (.iaload, 1) := by decide +kernel
theorem d_Mod_shift_31 : decode M_Mod_shift.2.1 31 = .ok (.ifCond .ge 6, 3) := by decide +kernel
theorem d_Mod_shift_37 : decode M_Mod_shift.2.1 37 = .ok (.aload_n 0, 1) := by decide +kernel
theorem d_Mod_shift_38 : decode M_Mod_shift.2.1 38 = .ok (.getfield 97, 3) := by decide +kernel
theorem d_Mod_shift_41 : decode M_Mod_shift.2.1 41 = .ok (.iload_n 1, 1) := by decide +kernel
theorem d_Mod_shift_42 : decode M_Mod_shift.2.1 42 = .ok (.iaload, 1) := by decide +kernel
theorem d_Mod_shift_43 : decode M_Mod_shift.2.1 43 = .ok (.aload_n 0, 1) := by decide +kernel
theorem d_Mod_shift_44 : decode M_Mod_shift.2.1 44 = .ok (.getfield 97, 3) := by decide +kernel
theorem d_Mod_shift_47 : decode M_Mod_shift.2.1 47 = .ok (.iload_n 3, 1) := by decide +kernel
theorem d_Mod_shift_48 : decode M_Mod_shift.2.1 48 = .ok (.iaload, 1) := by decide +kernel
theorem d_Mod_shift_49 : decode M_Mod_shift.2.1 49 = .ok (.if_icmp .eq 6, 3) := by decide +kernel
theorem d_Mod_shift_55 : decode M_Mod_shift.2.1 55 = .ok (.iload 5, 2) := by decide +kernel
theorem d_Mod_shift_57 : decode M_Mod_shift.2.1 57 = .ok (.ifCond .lt 47, 3) := by decide +kernel
theorem d_Mod_shift_104 : decode M_Mod_shift.2.1 104 = .ok (.bipush (-13), 2) := by decide +kernel
theorem d_Mod_shift_106 : decode M_Mod_shift.2.1 106 = .ok (.ireturn, 1) := by decide +kernel
theorem d_Mod_shift_60 : decode M_Mod_shift.2.1 60 = .ok (.iload_n 2, 1) := by decide +kernel
theorem d_Mod_shift_61 : decode M_Mod_shift.2.1 61 = .ok (.ifCond .lt 43, 3) := by decide +kernel
theorem d_Mod_shift_64 : decode M_Mod_shift.2.1 64 = .ok (.iload 4, 2) := by decide +kernel
theorem d_Mod_shift_66 : decode M_Mod_shift.2.1 66 = .ok (.ifCond .lt 38, 3) := by decide +kernel
theorem d_Mod_shift_69 : decode M_Mod_shift.2.1 69 = .ok (.iload_n 2, 1) := by decide +kernel
theorem d_Mod_shift_70 : decode M_Mod_shift.2.1 70 = .ok (.i2l, 1) := by decide +kernel
theorem d_Mod_shift_71 : decode M_Mod_shift.2.1 71 = .ok (.iload 5, 2) := by decide +kernel
theorem d_Mod_shift_73 : decode M_Mod_shift.2.1 73 = .ok (.i2l, 1) := by decide +kernel
theorem d_Mod_shift_74 : decode M_Mod_shift.2.1 74 = .ok (.ladd, 1) := by decide +kernel
theorem d_Mod_shift_75 : decode M_Mod_shift.2.1 75 = .ok (.aload_n 0, 1) := by decide +kernel
theorem d_Mod_shift_76 : decode M_Mod_shift.2.1 76 = .ok (.getfield 100, 3) := by decide +kernel
theorem d_Mod_shift_79 : decode M_Mod_shift.2.1 79 = .ok (.iload_n 1, 1) := by decide +kernel
theorem d_Mod_shift_80 : decode M_Mod_shift.2.1 80 = .ok (.iaload, 1) := by decide +kernel
theorem d_Mod_shift_81 : decode M_Mod_shift.2.1 81 = .ok (.i2l, 1) := by decide +kernel
theorem d_Mod_shift_82 : decode M_Mod_shift.2.1 82 = .ok (.lcmp, 1) := by decide +kernel
theorem d_Mod_shift_83 : decode M_Mod_shift.2.1 83 = .ok (.ifCond .gt 21, 3) := by decide +kernel
theorem d_Mod_shift_86 : decode M_Mod_shift.2.1 86 = .ok (.iload 4, 2) := by decide +kernel
theorem d_Mod_shift_88 : decode M_Mod_shift.2.1 88 = .ok (.i2l, 1) := by decide +kernel
theorem d_Mod_shift_89 : decode M_Mod_shift.2.1 89 = .ok (.iload 5, 2) := by decide +kernel
theorem d_Mod_shift_91 : decode M_Mod_shift.2.1 91 = .ok (.i2l, 1) := by decide +kernel
theorem d_Mod_shift_92 : decode M_Mod_shift.2.1 92 = .ok (.ladd, 1) := by decide +kernel
theorem d_Mod_shift_93 : decode M_Mod_shift.2.1 93 = .ok (.aload_n 0, 1) := by decide +kernel
theorem d_Mod_shift_94 : decode M_Mod_shift.2.1 94 = .ok (.getfield 100, 3) := by decide +kernel
theorem d_Mod_shift_97 : decode M_Mod_shift.2.1 97 = .ok (.iload_n 3, 1) := by decide +kernel
theorem d_Mod_shift_98 : decode M_Mod_shift.2.1 98 = .ok (.iaload, 1) := by decide +kernel
theorem d_Mod_shift_99 : decode M_Mod_shift.2.1 99 = .ok (.i2l, 1) := by decide +kernel
theorem d_Mod_shift_100 : decode M_Mod_shift.2.1 100 = .ok (.lcmp, 1) := by decide +kernel
theorem d_Mod_shift_101 : decode M_Mod_shift.2.1 101 = .ok (.ifCond .le 6, 3) := by decide +kernel
theorem d_Mod_shift_107 : decode M_Mod_shift.2.1 107 = .ok (.iload_n 1, 1) := by decide +kernel
theorem d_Mod_shift_108 : decode M_Mod_shift.2.1 108 = .ok (.iload_n 3, 1) := by decide +kernel
theorem d_Mod_shift_109 : decode M_Mod_shift.2.1 109 = .ok (.if_icmp .ne 58, 3) := by decide +kernel
theorem d_Mod_shift_167 : decode M_Mod_shift.2.1 167 = .ok (.iconst 0, 1) := by decide +kernel
theorem d_Mod_shift_168 : decode M_Mod_shift.2.1 168 = .ok (.istore 6, 2) := by decide +kernel
theorem d_Mod_shift_170 : decode M_Mod_shift.2.1 170 = .ok (.iload 6, 2) := by decide +kernel
theorem d_Mod_shift_172 : decode M_Mod_shift.2.1 172 = .ok (.iload 5, 2) := by decide +kernel
theorem d_Mod_shift_174 : decode M_Mod_shift.2.1 174 = .ok (.if_icmp .ge 38, 3) := by decide +kernel
theorem d_Mod_shift_212 : decode M_Mod_shift.2.1 212 = .ok (.iload 5, 2) := by decide +kernel
theorem d_Mod_shift_214 : decode M_Mod_shift.2.1 214 = .ok (.ireturn, 1) := by decide +kernel
theorem d_Mod_shift_177 : decode M_Mod_shift.2.1 177 = .ok (.aload_n 0, 1) := by decide +kernel
theorem d_Mod_shift_178 : decode M_Mod_shift.2.1 178 = .ok (.getfield 103, 3) := by decide +kernel
theorem d_Mod_shift_181 : decode M_Mod_shift.2.1 181 = .ok (.bipush 60, 2) := by decide +kernel
theorem d_Mod_shift_183 : decode M_Mod_shift.2.1 183 = .ok (.iload_n 3, 1) := by decide +kernel
theorem d_Mod_shift_184 : decode M_Mod_shift.2.1 184 = .ok (.imul, 1) := by decide +kernel
theorem d_Mod_shift_185 : decode M_Mod_shift.2.1 185 = .ok (.iload 4, 2) := by decide +kernel
theorem d_Mod_shift_187 : decode M_Mod_shift.2.1 187 = .ok (.iadd, 1) := by decide +kernel
theorem d_Mod_shift_188 : decode M_Mod_shift.2.1 188 = .ok (.iload 6, 2) := by decide +kernel
theorem d_Mod_shift_190 : decode M_Mod_shift.2.1 190 = .ok (.iadd, 1) := by decide +kernel
theorem d_Mod_shift_191 : decode M_Mod_shift.2.1 191 = .ok (.aload_n 0, 1) := by decide +kernel
theorem d_Mod_shift_192 : decode M_Mod_shift.2.1 192 = .ok (.getfield 103, 3) := by decide +kernel
theorem d_Mod_shift_195 : decode M_Mod_shift.2.1 195 = .ok (.bipush 60, 2) := by decide +kernel
theorem d_Mod_shift_197 : decode M_Mod_shift.2.1 197 = .ok (.iload_n 1, 1) := by decide +kernel
theorem d_Mod_shift_198 : decode M_Mod_shift.2.1 198 = .ok (.imul, 1) := by decide +kernel
theorem d_Mod_shift_199 : decode M_Mod_shift.2.1 199 = .ok (.iload_n 2, 1) := by decide +kernel
theorem d_Mod_shift_200 : decode M_Mod_shift.2.1 200 = .ok (.iadd, 1) := by decide +kernel
theorem d_Mod_shift_201 : decode M_Mod_shift.2.1 201 = .ok (.iload 6, 2) := by decide +kernel
theorem d_Mod_shift_203 : decode M_Mod_shift.2.1 203 = .ok (.iadd, 1) := by decide +kernel
theorem d_Mod_shift_204 : decode M_Mod_shift.2.1 204 = .ok (.laload, 1) := by decide +kernel
theorem d_Mod_shift_205 : decode M_Mod_shift.2.1 205 = .ok (.lastore, 1) := by decide +kernel
theorem d_Mod_shift_206 : decode M_Mod_shift.2.1 206 = .ok (.iinc 6 1, 3) := by decide +kernel
theorem d_Mod_shift_209 : decode M_Mod_shift.2.1 209 = .ok (.goto (-39), 3) := by decide +kernel
theorem d_Mod_shift_112 : decode M_Mod_shift.2.1 112 = .ok (.iload_n 2, 1) := by decide +kernel
theorem d_Mod_shift_113 : decode M_Mod_shift.2.1 113 = .ok (.iload 4, 2) := by decide +kernel
theorem d_Mod_shift_115 : decode M_Mod_shift.2.1 115 = .ok (.if_icmp .ge 52, 3) := by decide +kernel
theorem d_Mod_shift_118 : decode M_Mod_shift.2.1 118 = .ok (.iload 5, 2) := by decide +kernel
theorem d_Mod_shift_120 : decode M_Mod_shift.2.1 120 = .ok (.iconst 1, 1) := by decide +kernel
theorem d_Mod_shift_121 : decode M_Mod_shift.2.1 121 = .ok (.isub, 1) := by decide +kernel
theorem d_Mod_shift_122 : decode M_Mod_shift.2.1 122 = .ok (.istore 6, 2) := by decide +kernel
theorem d_Mod_shift_124 : decode M_Mod_shift.2.1 124 = .ok (.iload 6, 2) := by decide +kernel
theorem d_Mod_shift_126 : decode M_Mod_shift.2.1 126 = .ok (.ifCond .lt 38, 3) := by decide +kernel
theorem d_Mod_shift_164 : decode M_Mod_shift.2.1 164 = .ok (.goto 48, 3) := by decide +kernel
theorem d_Mod_shift_129 : decode M_Mod_shift.2.1 129 = .ok (.aload_n 0, 1) := by decide +kernel
theorem d_Mod_shift_130 : decode M_Mod_shift.2.1 130 = .ok (.getfield 103, 3) := by decide +kernel
theorem d_Mod_shift_133 : decode M_Mod_shift.2.1 133 = .ok (.bipush 60, 2) := by decide +kernel
theorem d_Mod_shift_135 : decode M_Mod_shift.2.1 135 = .ok (.iload_n 3, 1) := by decide +kernel
theorem d_Mod_shift_136 : decode M_Mod_shift.2.1 136 = .ok (.imul, 1) := by decide +kernel
theorem d_Mod_shift_137 : decode M_Mod_shift.2.1 137 = .ok (.iload 4, 2) := by decide +kernel
theorem d_Mod_shift_139 : decode M_Mod_shift.2.1 139 = .ok (.iadd, 1) := by decide +kernel
theorem d_Mod_shift_140 : decode M_Mod_shift.2.1 140 = .ok (.iload 6, 2) := by decide +kernel
theorem d_Mod_shift_142 : decode M_Mod_shift.2.1 142 = .ok (.iadd, 1) := by decide +kernel
theorem d_Mod_shift_143 : decode M_Mod_shift.2.1 143 = .ok (.aload_n 0, 1) := by decide +kernel
theorem d_Mod_shift_144 : decode M_Mod_shift.2.1 144 = .ok (.getfield 103, 3) := by decide +kernel
theorem d_Mod_shift_147 : decode M_Mod_shift.2.1 147 = .ok (.bipush 60, 2) := by decide +kernel
theorem d_Mod_shift_149 : decode M_Mod_shift.2.1 149 = .ok (.iload_n 1, 1) := by decide +kernel
theorem d_Mod_shift_150 : decode M_Mod_shift.2.1 150 = .ok (.imul, 1) := by decide +kernel
theorem d_Mod_shift_151 : decode M_Mod_shift.2.1 151 = .ok (.iload_n 2, 1) := by decide +kernel
theorem d_Mod_shift_152 : decode M_Mod_shift.2.1 152 = .ok (.iadd, 1) := by decide +kernel
theorem d_Mod_shift_153 : decode M_Mod_shift.2.1 153 = .ok (.iload 6, 2) := by decide +kernel
theorem d_Mod_shift_155 : decode M_Mod_shift.2.1 155 = .ok (.iadd, 1) := by decide +kernel
theorem d_Mod_shift_156 : decode M_Mod_shift.2.1 156 = .ok (.laload, 1) := by decide +kernel
theorem d_Mod_shift_157 : decode M_Mod_shift.2.1 157 = .ok (.lastore, 1) := by decide +kernel
theorem d_Mod_shift_158 : decode M_Mod_shift.2.1 158 = .ok (.iinc 6 (-1), 3) := by decide +kernel
theorem d_Mod_shift_161 : decode M_Mod_shift.2.1 161 = .ok (.goto (-37), 3) := by decide +kernel
theorem d_Mod_shift_52 : decode M_Mod_shift.2.1 52 = .ok (.bipush (-12), 2) := by decide +kernel
theorem d_Mod_shift_54 : decode M_Mod_shift.2.1 54 = .ok (.ireturn, 1) := by decide +kernel
theorem c_Mod_ends (X : Xn) (a ν : Nat → Nat) (σ : Nat → Nat → Int32) (τ : Nat → Int64) (hn6 : ν 0 ≤ 6) (h10 : ν 29 ≤ 10) (hpl : ∀ i, i < ν 29 → ∃ w p : Nat, w ≤ 3 ∧ p < 6 ∧ σ 30 i = nI w ∧ σ 31 i = nI p) (w0 : Int32) : Does X 4 M_Mod_ends [.ref (a 0), .int w0] (MW X a ν σ τ) 0 0 (fun (vv : Option Value) (ww : va_W) => ∃ t : Nat → Int32, vv = some (.int (R_ends (ν 0) (ν 29) (σ 30) (σ 31) (σ 3) (σ 5) w0)) ∧ ww = MW X a ν (u2 σ 40 t) τ) := by
  generalize hQ : (fun (vv : Option Value) (ww : va_W) => ∃ t : Nat → Int32, vv = some (.int (R_ends (ν 0) (ν 29) (σ 30) (σ 31) (σ 3) (σ 5) w0)) ∧ ww = MW X a ν (u2 σ 40 t) τ) = Q
  refine Does.go rfl (Nat.le_of_ble_eq_true rfl) [some (.ref (a 0)), some (.int w0), none, none, none] 3 rfl ?_
  refine r_iload_n rfl 1 rfl d_Mod_ends_0 ?_
  refine r_iconst (nI 0) rfl 2 rfl d_Mod_ends_1 ?_
  refine r_iconst (nI 1) rfl 3 rfl d_Mod_ends_2 ?_
  refine r_callS1 (st2 := [.int (bI (inR w0 (nI 0) (nI 1)))]) (w2 := MW X a ν σ τ) lk_Mod_within ln_Mod_114 (c_Mod_within X w0 (nI 0) (nI 1)) (by first | decide | omega) rfl rfl (Nat.le_of_ble_eq_true rfl) (Nat.le_of_ble_eq_true rfl) (Nat.le_of_ble_eq_true rfl) [] rfl rfl rfl rfl rfl 6 rfl d_Mod_ends_3 ?_
  refine r_if_neB 9 11 rfl rfl d_Mod_ends_6 (fun h6 => ?_) (fun h6 => ?_)
  · obtain ⟨w0N, hw0N, rfl⟩ := inR_t (by decide) h6
    have ew0N : cn (nI w0N) = w0N := cn_nI (by omega)
    have mw0N : ¬ nI w0N = -1 := m1n (by omega)
    refine r_aload_n rfl 12 rfl d_Mod_ends_11 ?_
    refine r_aload_n rfl 13 rfl d_Mod_ends_12 ?_
    refine r_getf (v := .ref (a 40)) gf_Mod_88 0 rfl rfl 16 rfl d_Mod_ends_13 ?_
    refine r_callVA1 (st2 := []) (w2 := MW X a ν (u2 σ 40 (keepF ν σ (σ 40))) τ) lk_Mod_keep ln_Mod_254 (c_Mod_keep40 X a ν σ τ) (by first | decide | omega) rfl rfl (Nat.le_of_ble_eq_true rfl) (Nat.le_of_ble_eq_true rfl) (Nat.le_of_ble_eq_true rfl) 0 rfl rfl rfl rfl 19 rfl d_Mod_ends_16 ?_
    refine r_iconst (nI 0) rfl 20 rfl d_Mod_ends_19 ?_
    refine r_istore_n (ls2 := [some (.ref (a 0)), some (.int (nI w0N)), some (.int (nI 0)), none, none]) 21 rfl d_Mod_ends_20 (by decide) rfl rfl ?_
    have L21_1 : ∀ (f : Nat) (i : Nat) (dd : Nat), (i ≤ ν 29) → ν 29 - i < f → Runs X 4 M_Mod_ends 0 0 Q 21 [some (.ref (a 0)), some (.int (nI w0N)), some (.int (nI i)), none, none] [] 0 0 (MW X a (u1 ν 6 dd) (u2 (u2 (u2 σ 40 (keepF ν σ (σ 40))) 3 (planN (ν 0) (σ 30) (σ 31) (σ 3, σ 5) i).1) 5 ((planN (ν 0) (σ 30) (σ 31) (σ 3, σ 5) i).2)) τ) := by
      intro f
      induction f with
      | zero => intro i dd hi hmu; exact absurd hmu (Nat.not_lt_zero _)
      | succ f ih2 =>
        intro i dd hi hmu
        refine r_iload_n rfl 22 rfl d_Mod_ends_21 ?_
        refine r_aload_n rfl 23 rfl d_Mod_ends_22 ?_
        refine r_getf (v := .int (nI (ν 29))) gf_Mod_312 0 rfl rfl 26 rfl d_Mod_ends_23 ?_
        refine r_icmp_geN i (ν 29) (by omega) (by omega) 29 133 rfl rfl d_Mod_ends_26 (fun h26 => ?_) (fun h26 => ?_)
        · have n26 := Nat.not_lt.mpr h26
          refine r_iload_n rfl 134 rfl d_Mod_ends_133 ?_
          refine r_if_neN w0N (by omega) 137 144 rfl rfl d_Mod_ends_134 (fun h134 => ?_) (fun h134 => ?_)
          · refine r_aload_n rfl 145 rfl d_Mod_ends_144 ?_
            refine r_iconst (nI 0) rfl 146 rfl d_Mod_ends_145 ?_
            refine r_callVA1 (st2 := [.int (nI (fails (ν 0) ((planN (ν 0) (σ 30) (σ 31) (σ 3, σ 5) i).1) ((planN (ν 0) (σ 30) (σ 31) (σ 3, σ 5) i).2) 0))]) (w2 := MW X a (u1 ν 6 dd) (u2 (u2 (u2 σ 40 (keepF ν σ (σ 40))) 3 (planN (ν 0) (σ 30) (σ 31) (σ 3, σ 5) i).1) 5 ((planN (ν 0) (σ 30) (σ 31) (σ 3, σ 5) i).2)) τ) lk_Mod_fails ln_Mod_134 (c_Mod_fails X a (u1 ν 6 dd) (u2 (u2 (u2 σ 40 (keepF ν σ (σ 40))) 3 (planN (ν 0) (σ 30) (σ 31) (σ 3, σ 5) i).1) 5 ((planN (ν 0) (σ 30) (σ 31) (σ 3, σ 5) i).2)) τ hn6 0 (by first | omega | assumption | exact shl_lt6 (by omega))) (by first | decide | omega) rfl rfl (Nat.le_of_ble_eq_true rfl) (Nat.le_of_ble_eq_true rfl) (Nat.le_of_ble_eq_true rfl) 0 rfl rfl rfl rfl 149 rfl d_Mod_ends_146 ?_
            refine r_istore_n (ls2 := [some (.ref (a 0)), some (.int (nI w0N)), some (.int (nI (fails (ν 0) ((planN (ν 0) (σ 30) (σ 31) (σ 3, σ 5) i).1) ((planN (ν 0) (σ 30) (σ 31) (σ 3, σ 5) i).2) 0))), none, none]) 150 rfl d_Mod_ends_149 (by decide) rfl rfl ?_
            refine r_aload_n rfl 151 rfl d_Mod_ends_150 ?_
            refine r_aload_n rfl 152 rfl d_Mod_ends_151 ?_
            refine r_getf (v := .ref (a 40)) gf_Mod_88 0 rfl rfl 155 rfl d_Mod_ends_152 ?_
            refine r_callVA1 (st2 := []) (w2 := MW X a (u1 (u1 (u1 (u1 (u1 (u1 ν 6 dd) 0 (ν 0)) 6 (ν 6)) 23 (ν 23)) 29 (ν 29)) 32 (ν 32)) (againF (u2 (u2 (u2 σ 40 (keepF ν σ (σ 40))) 3 (planN (ν 0) (σ 30) (σ 31) (σ 3, σ 5) i).1) 5 ((planN (ν 0) (σ 30) (σ 31) (σ 3, σ 5) i).2)) (keepF ν σ (σ 40))) τ) lk_Mod_again ln_Mod_259 (c_Mod_again40 X a (u1 ν 6 dd) (u2 (u2 (u2 σ 40 (keepF ν σ (σ 40))) 3 (planN (ν 0) (σ 30) (σ 31) (σ 3, σ 5) i).1) 5 ((planN (ν 0) (σ 30) (σ 31) (σ 3, σ 5) i).2)) τ (ν 0) (ν 6) (ν 23) (ν 29) (ν 32) rfl rfl rfl rfl rfl) (by first | decide | omega) rfl rfl (Nat.le_of_ble_eq_true rfl) (Nat.le_of_ble_eq_true rfl) (Nat.le_of_ble_eq_true rfl) 0 rfl rfl rfl rfl 158 rfl d_Mod_ends_155 ?_
            have hpo := planN_out hn6 (go := σ 30) (wh := σ 31) (s := (σ 3, σ 5)) i (fun q hq => by obtain ⟨_, pp, _, hpp, _, e⟩ := hpl q (by omega); rw [e, cn_nI (by omega)]; exact hpp)
            refine Runs.cast (w' := MW X a ν (u2 σ 40 (keepF ν σ (σ 40))) τ) ?_ rfl rfl (by rw [u1_same6, again_keep (σ := σ) (σ2 := u2 (u2 (u2 σ 40 (keepF ν σ (σ 40))) 3 (planN (ν 0) (σ 30) (σ 31) (σ 3, σ 5) i).1) 5 (planN (ν 0) (σ 30) (σ 31) (σ 3, σ 5) i).2) (t := σ 40) (by intro c h1 h2 h3; rw [u2_n h3, u2_n h2, u2_n h1]) (by rw [u2_n (by decide), u2_n (by decide), u2_s]) (fun j hj => hpo.1 j hj) (fun j hj => hpo.2 j hj)])
            refine r_iload_n rfl 159 rfl d_Mod_ends_158 ?_
            exact r_iret rfl (Nat.zero_le _) (Nat.zero_le _) d_Mod_ends_159 (by rw [← hQ]; exact ⟨_, by rw [R_ends, if_pos h6, ew0N, if_neg h134, show i = ν 29 by omega], rfl⟩)
          · refine r_aload_n rfl 138 rfl d_Mod_ends_137 ?_
            refine r_callVA1 (st2 := [.int (osumAll (ν 0) ((planN (ν 0) (σ 30) (σ 31) (σ 3, σ 5) i).2) (ν 0))]) (w2 := MW X a (u1 ν 6 dd) (u2 (u2 (u2 σ 40 (keepF ν σ (σ 40))) 3 (planN (ν 0) (σ 30) (σ 31) (σ 3, σ 5) i).1) 5 ((planN (ν 0) (σ 30) (σ 31) (σ 3, σ 5) i).2)) τ) lk_Mod_allDebt ln_Mod_294 (c_Mod_allDebt X a (u1 ν 6 dd) (u2 (u2 (u2 σ 40 (keepF ν σ (σ 40))) 3 (planN (ν 0) (σ 30) (σ 31) (σ 3, σ 5) i).1) 5 ((planN (ν 0) (σ 30) (σ 31) (σ 3, σ 5) i).2)) τ hn6) (by first | decide | omega) rfl rfl (Nat.le_of_ble_eq_true rfl) (Nat.le_of_ble_eq_true rfl) (Nat.le_of_ble_eq_true rfl) 0 rfl rfl rfl rfl 141 rfl d_Mod_ends_138 ?_
            refine r_goto 149 rfl d_Mod_ends_141 ?_
            refine r_istore_n (ls2 := [some (.ref (a 0)), some (.int (nI w0N)), some (.int (osumAll (ν 0) ((planN (ν 0) (σ 30) (σ 31) (σ 3, σ 5) i).2) (ν 0))), none, none]) 150 rfl d_Mod_ends_149 (by decide) rfl rfl ?_
            refine r_aload_n rfl 151 rfl d_Mod_ends_150 ?_
            refine r_aload_n rfl 152 rfl d_Mod_ends_151 ?_
            refine r_getf (v := .ref (a 40)) gf_Mod_88 0 rfl rfl 155 rfl d_Mod_ends_152 ?_
            refine r_callVA1 (st2 := []) (w2 := MW X a (u1 (u1 (u1 (u1 (u1 (u1 ν 6 dd) 0 (ν 0)) 6 (ν 6)) 23 (ν 23)) 29 (ν 29)) 32 (ν 32)) (againF (u2 (u2 (u2 σ 40 (keepF ν σ (σ 40))) 3 (planN (ν 0) (σ 30) (σ 31) (σ 3, σ 5) i).1) 5 ((planN (ν 0) (σ 30) (σ 31) (σ 3, σ 5) i).2)) (keepF ν σ (σ 40))) τ) lk_Mod_again ln_Mod_259 (c_Mod_again40 X a (u1 ν 6 dd) (u2 (u2 (u2 σ 40 (keepF ν σ (σ 40))) 3 (planN (ν 0) (σ 30) (σ 31) (σ 3, σ 5) i).1) 5 ((planN (ν 0) (σ 30) (σ 31) (σ 3, σ 5) i).2)) τ (ν 0) (ν 6) (ν 23) (ν 29) (ν 32) rfl rfl rfl rfl rfl) (by first | decide | omega) rfl rfl (Nat.le_of_ble_eq_true rfl) (Nat.le_of_ble_eq_true rfl) (Nat.le_of_ble_eq_true rfl) 0 rfl rfl rfl rfl 158 rfl d_Mod_ends_155 ?_
            have hpo := planN_out hn6 (go := σ 30) (wh := σ 31) (s := (σ 3, σ 5)) i (fun q hq => by obtain ⟨_, pp, _, hpp, _, e⟩ := hpl q (by omega); rw [e, cn_nI (by omega)]; exact hpp)
            refine Runs.cast (w' := MW X a ν (u2 σ 40 (keepF ν σ (σ 40))) τ) ?_ rfl rfl (by rw [u1_same6, again_keep (σ := σ) (σ2 := u2 (u2 (u2 σ 40 (keepF ν σ (σ 40))) 3 (planN (ν 0) (σ 30) (σ 31) (σ 3, σ 5) i).1) 5 (planN (ν 0) (σ 30) (σ 31) (σ 3, σ 5) i).2) (t := σ 40) (by intro c h1 h2 h3; rw [u2_n h3, u2_n h2, u2_n h1]) (by rw [u2_n (by decide), u2_n (by decide), u2_s]) (fun j hj => hpo.1 j hj) (fun j hj => hpo.2 j hj)])
            refine r_iload_n rfl 159 rfl d_Mod_ends_158 ?_
            exact r_iret rfl (Nat.zero_le _) (Nat.zero_le _) d_Mod_ends_159 (by rw [← hQ]; exact ⟨_, by rw [R_ends, if_pos h6, ew0N, if_pos h134, show i = ν 29 by omega], rfl⟩)
        · have n26 := Nat.not_le.mpr h26
          refine r_aload_n rfl 30 rfl d_Mod_ends_29 ?_
          refine r_getf (v := .ref (a 31)) gf_Mod_70 0 rfl rfl 33 rfl d_Mod_ends_30 ?_
          refine r_iload_n rfl 34 rfl d_Mod_ends_33 ?_
          refine r_iald 20 rfl i rfl (by omega) (by omega) 35 rfl d_Mod_ends_34 ?_
          obtain ⟨w, p, hw3, hp6, eW, eP⟩ := hpl i h26
          refine r_topi (nI p) (eP) ?_
          refine r_istore_n (ls2 := [some (.ref (a 0)), some (.int (nI w0N)), some (.int (nI i)), some (.int (nI p)), none]) 36 rfl d_Mod_ends_35 (by decide) rfl rfl ?_
          refine r_aload_n rfl 37 rfl d_Mod_ends_36 ?_
          refine r_getf (v := .ref (a 30)) gf_Mod_67 0 rfl rfl 40 rfl d_Mod_ends_37 ?_
          refine r_iload_n rfl 41 rfl d_Mod_ends_40 ?_
          refine r_iald 19 rfl i rfl (by omega) (by omega) 42 rfl d_Mod_ends_41 ?_
          refine r_topi (nI w) (eW) ?_
          refine r_if_neN w (by omega) 45 58 rfl rfl d_Mod_ends_42 (fun h42 => ?_) (fun h42 => ?_)
          · refine r_aload_n rfl 59 rfl d_Mod_ends_58 ?_
            refine r_getf (v := .ref (a 30)) gf_Mod_67 0 rfl rfl 62 rfl d_Mod_ends_59 ?_
            refine r_iload_n rfl 63 rfl d_Mod_ends_62 ?_
            refine r_iald 19 rfl i rfl (by omega) (by omega) 64 rfl d_Mod_ends_63 ?_
            refine r_topi (nI w) (eW) ?_
            refine r_iconst (nI 1) rfl 65 rfl d_Mod_ends_64 ?_
            refine r_icmp_neN w 1 (by omega) (by omega) 68 76 rfl rfl d_Mod_ends_65 (fun h65 => ?_) (fun h65 => ?_)
            · by_cases hw2 : w = 2
              · refine r_iconst (nI 0) rfl 77 rfl d_Mod_ends_76 ?_
                refine r_istore (ls2 := [some (.ref (a 0)), some (.int (nI w0N)), some (.int (nI i)), some (.int (nI p)), some (.int (nI 0))]) 79 rfl d_Mod_ends_77 (by decide) rfl rfl ?_
                have L79_3 : ∀ (f : Nat) (k : Nat), (k ≤ ν 0) → ν 0 - k < f → Runs X 4 M_Mod_ends 0 0 Q 79 [some (.ref (a 0)), some (.int (nI w0N)), some (.int (nI i)), some (.int (nI p)), some (.int (nI k))] [] 0 0 (MW X a (u1 ν 6 dd) (u2 (u2 (u2 σ 40 (keepF ν σ (σ 40))) 3 (planN (ν 0) (σ 30) (σ 31) (σ 3, σ 5) i).1) 5 (z2 (planN (ν 0) (σ 30) (σ 31) (σ 3, σ 5) i).2 p k)) τ) := by
                  intro f
                  induction f with
                  | zero => intro k hk hmu; exact absurd hmu (Nat.not_lt_zero _)
                  | succ f ih4 =>
                    intro k hk hmu
                    refine r_iload rfl 81 rfl d_Mod_ends_79 ?_
                    refine r_aload_n rfl 82 rfl d_Mod_ends_81 ?_
                    refine r_getf (v := .int (nI (ν 0))) gf_Mod_111 0 rfl rfl 85 rfl d_Mod_ends_82 ?_
                    refine r_icmp_geN k (ν 0) (by omega) (by omega) 88 127 rfl rfl d_Mod_ends_85 (fun h85 => ?_) (fun h85 => ?_)
                    · have n85 := Nat.not_lt.mpr h85
                      refine r_iinc (ls2 := [some (.ref (a 0)), some (.int (nI w0N)), some (.int (nI (i + 1))), some (.int (nI p)), some (.int (nI k))]) (nI (i + 1)) rfl (nI_1 _) 130 rfl d_Mod_ends_127 (by decide) rfl rfl ?_
                      refine r_goto 21 rfl d_Mod_ends_130 ?_
                      refine r_forget (ls2 := [some (.ref (a 0)), some (.int (nI w0N)), some (.int (nI (i + 1))), none, some (.int (nI k))]) 3 rfl ?_
                      refine r_forget (ls2 := [some (.ref (a 0)), some (.int (nI w0N)), some (.int (nI (i + 1))), none, none]) 4 rfl ?_
                      refine Runs.cast (ih2 (i + 1) dd (by omega) (by omega)) (rfl) rfl (by rw [planN_s eW eP (by omega) (by omega), planS, if_neg h42, if_neg h65, if_pos hw2, show k = ν 0 by omega]; try rfl)
                    · have n85 := Nat.not_le.mpr h85
                      refine r_aload_n rfl 89 rfl d_Mod_ends_88 ?_
                      refine r_getf (v := .ref (a 5)) gf_Mod_24 0 rfl rfl 92 rfl d_Mod_ends_89 ?_
                      refine r_aload_n rfl 93 rfl d_Mod_ends_92 ?_
                      refine r_getf (v := .ref (a 30)) gf_Mod_67 0 rfl rfl 96 rfl d_Mod_ends_93 ?_
                      refine r_iload_n rfl 97 rfl d_Mod_ends_96 ?_
                      refine r_iald 19 rfl i rfl (by omega) (by omega) 98 rfl d_Mod_ends_97 ?_
                      refine r_topi (nI w) (eW) ?_
                      refine r_iconst (nI 2) rfl 99 rfl d_Mod_ends_98 ?_
                      refine r_icmp_neN_f w 2 (by omega) (by omega) 102 rfl 112 rfl d_Mod_ends_99 (hw2) ?_
                      refine r_bipush (nI 6) rfl 104 rfl d_Mod_ends_102 ?_
                      refine r_iload_n rfl 105 rfl d_Mod_ends_104 ?_
                      refine r_imul 106 rfl d_Mod_ends_105 ?_
                      refine r_topi (nI (6 * p)) (pk_mul _ _) ?_
                      refine r_iload rfl 108 rfl d_Mod_ends_106 ?_
                      refine r_iadd 109 rfl d_Mod_ends_108 ?_
                      refine r_topi (nI ((6 * p) + k)) (nI_add _ _) ?_
                      refine r_goto 119 rfl d_Mod_ends_109 ?_
                      refine r_iconst (nI 0) rfl 120 rfl d_Mod_ends_119 ?_
                      refine r_iast (w2 := MW X a (u1 ν 6 dd) (u2 (u2 (u2 (u2 σ 40 (keepF ν σ (σ 40))) 3 (planN (ν 0) (σ 30) (σ 31) (σ 3, σ 5) i).1) 5 (z2 (planN (ν 0) (σ 30) (σ 31) (σ 3, σ 5) i).2 p k)) 5 (upd (z2 (planN (ν 0) (σ 30) (σ 31) (σ 3, σ 5) i).2 p k) ((6 * p) + k) (nI 0))) τ) 5 rfl ((6 * p) + k) rfl (by omega) (by omega) rfl 121 rfl d_Mod_ends_120 ?_
                      refine r_iinc (ls2 := [some (.ref (a 0)), some (.int (nI w0N)), some (.int (nI i)), some (.int (nI p)), some (.int (nI (k + 1)))]) (nI (k + 1)) rfl (nI_1 _) 124 rfl d_Mod_ends_121 (by decide) rfl rfl ?_
                      refine r_goto 79 rfl d_Mod_ends_124 ?_
                      refine Runs.cast (ih4 (k + 1) (by omega) (by omega)) (rfl) rfl (by rw [u2_552]; try rfl)
                exact L79_3 _ 0 (by omega) (Nat.lt_succ_self _)
              · refine r_iconst (nI 0) rfl 77 rfl d_Mod_ends_76 ?_
                refine r_istore (ls2 := [some (.ref (a 0)), some (.int (nI w0N)), some (.int (nI i)), some (.int (nI p)), some (.int (nI 0))]) 79 rfl d_Mod_ends_77 (by decide) rfl rfl ?_
                have L79_5 : ∀ (f : Nat) (k : Nat), (k ≤ ν 0) → ν 0 - k < f → Runs X 4 M_Mod_ends 0 0 Q 79 [some (.ref (a 0)), some (.int (nI w0N)), some (.int (nI i)), some (.int (nI p)), some (.int (nI k))] [] 0 0 (MW X a (u1 ν 6 dd) (u2 (u2 (u2 σ 40 (keepF ν σ (σ 40))) 3 (planN (ν 0) (σ 30) (σ 31) (σ 3, σ 5) i).1) 5 (z3 (planN (ν 0) (σ 30) (σ 31) (σ 3, σ 5) i).2 p k)) τ) := by
                  intro f
                  induction f with
                  | zero => intro k hk hmu; exact absurd hmu (Nat.not_lt_zero _)
                  | succ f ih6 =>
                    intro k hk hmu
                    refine r_iload rfl 81 rfl d_Mod_ends_79 ?_
                    refine r_aload_n rfl 82 rfl d_Mod_ends_81 ?_
                    refine r_getf (v := .int (nI (ν 0))) gf_Mod_111 0 rfl rfl 85 rfl d_Mod_ends_82 ?_
                    refine r_icmp_geN k (ν 0) (by omega) (by omega) 88 127 rfl rfl d_Mod_ends_85 (fun h85 => ?_) (fun h85 => ?_)
                    · have n85 := Nat.not_lt.mpr h85
                      refine r_iinc (ls2 := [some (.ref (a 0)), some (.int (nI w0N)), some (.int (nI (i + 1))), some (.int (nI p)), some (.int (nI k))]) (nI (i + 1)) rfl (nI_1 _) 130 rfl d_Mod_ends_127 (by decide) rfl rfl ?_
                      refine r_goto 21 rfl d_Mod_ends_130 ?_
                      refine r_forget (ls2 := [some (.ref (a 0)), some (.int (nI w0N)), some (.int (nI (i + 1))), none, some (.int (nI k))]) 3 rfl ?_
                      refine r_forget (ls2 := [some (.ref (a 0)), some (.int (nI w0N)), some (.int (nI (i + 1))), none, none]) 4 rfl ?_
                      refine Runs.cast (ih2 (i + 1) dd (by omega) (by omega)) (rfl) rfl (by rw [planN_s eW eP (by omega) (by omega), planS, if_neg h42, if_neg h65, if_neg hw2, show k = ν 0 by omega]; try rfl)
                    · have n85 := Nat.not_le.mpr h85
                      refine r_aload_n rfl 89 rfl d_Mod_ends_88 ?_
                      refine r_getf (v := .ref (a 5)) gf_Mod_24 0 rfl rfl 92 rfl d_Mod_ends_89 ?_
                      refine r_aload_n rfl 93 rfl d_Mod_ends_92 ?_
                      refine r_getf (v := .ref (a 30)) gf_Mod_67 0 rfl rfl 96 rfl d_Mod_ends_93 ?_
                      refine r_iload_n rfl 97 rfl d_Mod_ends_96 ?_
                      refine r_iald 19 rfl i rfl (by omega) (by omega) 98 rfl d_Mod_ends_97 ?_
                      refine r_topi (nI w) (eW) ?_
                      refine r_iconst (nI 2) rfl 99 rfl d_Mod_ends_98 ?_
                      refine r_icmp_neN_t w 2 (by omega) (by omega) 112 rfl d_Mod_ends_99 (hw2) ?_
                      refine r_bipush (nI 6) rfl 114 rfl d_Mod_ends_112 ?_
                      refine r_iload rfl 116 rfl d_Mod_ends_114 ?_
                      refine r_imul 117 rfl d_Mod_ends_116 ?_
                      refine r_topi (nI (6 * k)) (pk_mul _ _) ?_
                      refine r_iload_n rfl 118 rfl d_Mod_ends_117 ?_
                      refine r_iadd 119 rfl d_Mod_ends_118 ?_
                      refine r_topi (nI ((6 * k) + p)) (nI_add _ _) ?_
                      refine r_iconst (nI 0) rfl 120 rfl d_Mod_ends_119 ?_
                      refine r_iast (w2 := MW X a (u1 ν 6 dd) (u2 (u2 (u2 (u2 σ 40 (keepF ν σ (σ 40))) 3 (planN (ν 0) (σ 30) (σ 31) (σ 3, σ 5) i).1) 5 (z3 (planN (ν 0) (σ 30) (σ 31) (σ 3, σ 5) i).2 p k)) 5 (upd (z3 (planN (ν 0) (σ 30) (σ 31) (σ 3, σ 5) i).2 p k) ((6 * k) + p) (nI 0))) τ) 5 rfl ((6 * k) + p) rfl (by omega) (by omega) rfl 121 rfl d_Mod_ends_120 ?_
                      refine r_iinc (ls2 := [some (.ref (a 0)), some (.int (nI w0N)), some (.int (nI i)), some (.int (nI p)), some (.int (nI (k + 1)))]) (nI (k + 1)) rfl (nI_1 _) 124 rfl d_Mod_ends_121 (by decide) rfl rfl ?_
                      refine r_goto 79 rfl d_Mod_ends_124 ?_
                      refine Runs.cast (ih6 (k + 1) (by omega) (by omega)) (rfl) rfl (by rw [u2_552]; try rfl)
                exact L79_5 _ 0 (by omega) (Nat.lt_succ_self _)
            · refine r_aload_n rfl 69 rfl d_Mod_ends_68 ?_
              refine r_iload_n rfl 70 rfl d_Mod_ends_69 ?_
              refine r_callVA1 (st2 := []) (w2 := MW X a (u1 ν 6 dd) (u2 (u2 (u2 (u2 (u2 σ 40 (keepF ν σ (σ 40))) 3 (planN (ν 0) (σ 30) (σ 31) (σ 3, σ 5) i).1) 5 ((planN (ν 0) (σ 30) (σ 31) (σ 3, σ 5) i).2)) 3 ((paysN p ((planN (ν 0) (σ 30) (σ 31) (σ 3, σ 5) i).1, ((planN (ν 0) (σ 30) (σ 31) (σ 3, σ 5) i).2)) (ν 0)).1)) 5 ((paysN p ((planN (ν 0) (σ 30) (σ 31) (σ 3, σ 5) i).1, ((planN (ν 0) (σ 30) (σ 31) (σ 3, σ 5) i).2)) (ν 0)).2)) τ) lk_Mod_paysAll ln_Mod_315 (c_Mod_paysAll X a (u1 ν 6 dd) (u2 (u2 (u2 σ 40 (keepF ν σ (σ 40))) 3 (planN (ν 0) (σ 30) (σ 31) (σ 3, σ 5) i).1) 5 ((planN (ν 0) (σ 30) (σ 31) (σ 3, σ 5) i).2)) τ hn6 p (by omega)) (by first | decide | omega) rfl rfl (Nat.le_of_ble_eq_true rfl) (Nat.le_of_ble_eq_true rfl) (Nat.le_of_ble_eq_true rfl) 0 rfl rfl rfl rfl 73 rfl d_Mod_ends_70 ?_
              refine r_goto 127 rfl d_Mod_ends_73 ?_
              refine r_iinc (ls2 := [some (.ref (a 0)), some (.int (nI w0N)), some (.int (nI (i + 1))), some (.int (nI p)), none]) (nI (i + 1)) rfl (nI_1 _) 130 rfl d_Mod_ends_127 (by decide) rfl rfl ?_
              refine r_goto 21 rfl d_Mod_ends_130 ?_
              refine r_forget (ls2 := [some (.ref (a 0)), some (.int (nI w0N)), some (.int (nI (i + 1))), none, none]) 3 rfl ?_
              refine Runs.cast (ih2 (i + 1) dd (by omega) (by omega)) (rfl) rfl (by rw [pays_again, planN_s eW eP (by omega) (by omega), planS, if_neg h42, if_pos h65]; try rfl)
          · refine r_aload_n rfl 46 rfl d_Mod_ends_45 ?_
            refine r_dup rfl 47 rfl d_Mod_ends_46 ?_
            refine r_getf (v := .int (nI dd)) gf_Mod_240 0 rfl rfl 50 rfl d_Mod_ends_47 ?_
            refine r_iconst (nI 1) rfl 51 rfl d_Mod_ends_50 ?_
            refine r_iadd 52 rfl d_Mod_ends_51 ?_
            refine r_topi (nI (dd + 1)) (nI_add _ _) ?_
            refine r_putf (w2 := MW X a (u1 (u1 ν 6 dd) 6 (dd + 1)) (u2 (u2 (u2 σ 40 (keepF ν σ (σ 40))) 3 (planN (ν 0) (σ 30) (σ 31) (σ 3, σ 5) i).1) 5 ((planN (ν 0) (σ 30) (σ 31) (σ 3, σ 5) i).2)) τ) pf_Mod_240 0 rfl (rfl) rfl (Nat.le_of_ble_eq_true rfl) rfl 55 rfl d_Mod_ends_52 ?_
            refine r_goto 127 rfl d_Mod_ends_55 ?_
            refine r_iinc (ls2 := [some (.ref (a 0)), some (.int (nI w0N)), some (.int (nI (i + 1))), some (.int (nI p)), none]) (nI (i + 1)) rfl (nI_1 _) 130 rfl d_Mod_ends_127 (by decide) rfl rfl ?_
            refine r_goto 21 rfl d_Mod_ends_130 ?_
            refine r_forget (ls2 := [some (.ref (a 0)), some (.int (nI w0N)), some (.int (nI (i + 1))), none, none]) 3 rfl ?_
            refine Runs.cast (ih2 (i + 1) (dd + 1) (by omega) (by omega)) (rfl) rfl (by rw [u1_u1, planN_s eW eP (by omega) (by omega), planS, if_pos h42]; try rfl)
    refine Runs.cast (L21_1 _ 0 (ν 6) (by omega) (Nat.lt_succ_self _)) (rfl) rfl (by rw [u1_self]; exact congrArg (fun z => MW X a ν z τ) (pay_0 (σ := u2 σ 40 (keepF ν σ (σ 40)))).symm)
  · refine r_iconst ((-1)) rfl 10 rfl d_Mod_ends_9 ?_
    exact r_iret rfl (Nat.zero_le _) (Nat.zero_le _) d_Mod_ends_10 (by rw [← hQ]; exact ⟨σ 40, by rw [R_ends, if_neg (by rw [h6]; decide)], by rw [u2_self]⟩)
theorem c_Mod_judge (X : Xn) (a ν : Nat → Nat) (σ : Nat → Nat → Int32) (τ : Nat → Int64) (hn6 : ν 0 ≤ 6) (hsz : ∀ t, t < 6 → ∃ z : Nat, z ≤ 60 ∧ σ 44 t = nI z) (t i : Int32) : Does X 4 M_Mod_judge [.ref (a 0), .int t, .int i] (MW X a ν σ τ) 0 0 (fun (vv : Option Value) (ww : va_W) => vv = some (.int (R_judge (ν 0) (σ 5) (σ 43) (σ 44) τ t i)) ∧ ww = MW X a ν σ τ) := by
  generalize hQ : (fun (vv : Option Value) (ww : va_W) => vv = some (.int (R_judge (ν 0) (σ 5) (σ 43) (σ 44) τ t i)) ∧ ww = MW X a ν σ τ) = Q
  refine Does.go rfl (Nat.le_of_ble_eq_true rfl) [some (.ref (a 0)), some (.int t), some (.int i), none] 1 rfl ?_
  refine r_iload_n rfl 1 rfl d_Mod_judge_0 ?_
  refine r_iconst (nI 0) rfl 2 rfl d_Mod_judge_1 ?_
  refine r_iconst (nI 5) rfl 3 rfl d_Mod_judge_2 ?_
  refine r_callS1 (st2 := [.int (bI (inR t (nI 0) (nI 5)))]) (w2 := MW X a ν σ τ) lk_Mod_within ln_Mod_114 (c_Mod_within X t (nI 0) (nI 5)) (by first | decide | omega) rfl rfl (Nat.le_of_ble_eq_true rfl) (Nat.le_of_ble_eq_true rfl) (Nat.le_of_ble_eq_true rfl) [] rfl rfl rfl rfl rfl 6 rfl d_Mod_judge_3 ?_
  refine r_if_neB 9 11 rfl rfl d_Mod_judge_6 (fun h6 => ?_) (fun h6 => ?_)
  · obtain ⟨tN, htN, rfl⟩ := inR_t (by decide) h6
    have etN : cn (nI tN) = tN := cn_nI (by omega)
    have mtN : ¬ nI tN = -1 := m1n (by omega)
    refine r_aload_n rfl 12 rfl d_Mod_judge_11 ?_
    refine r_getf (v := .ref (a 43)) gf_Mod_97 0 rfl rfl 15 rfl d_Mod_judge_12 ?_
    refine r_iload_n rfl 16 rfl d_Mod_judge_15 ?_
    refine r_iald 29 rfl tN rfl (by omega) (by omega) 17 rfl d_Mod_judge_16 ?_
    refine r_iconst ((-1)) rfl 18 rfl d_Mod_judge_17 ?_
    refine r_icmp_eq 21 34 rfl rfl d_Mod_judge_18 (fun h18 => ?_) (fun h18 => ?_)
    · have hso : σ 43 tN = -1 ∨ σ 43 tN = nI 2 := by first | exact Or.inl h18 | exact Or.inr h28
      refine r_iconst (nI 0) rfl 35 rfl d_Mod_judge_34 ?_
      refine r_istore_n (ls2 := [some (.ref (a 0)), some (.int (nI tN)), some (.int i), some (.int (nI 0))]) 36 rfl d_Mod_judge_35 (by decide) rfl rfl ?_
      have L36_1 : ∀ (f : Nat) (k : Nat), (k ≤ ν 0) → (judF (ν 0) (σ 5) (σ 43 tN) (σ 44 tN) τ (60 * tN) i (ν 0) = judF (ν 0) (σ 5) (σ 43 tN) (σ 44 tN) τ (60 * tN) i (ν 0 - k)) → ν 0 - k < f → Runs X 4 M_Mod_judge 0 0 Q 36 [some (.ref (a 0)), some (.int (nI tN)), some (.int i), some (.int (nI k))] [] 0 0 (MW X a ν σ τ) := by
        intro f
        induction f with
        | zero => intro k hk hr hmu; exact absurd hmu (Nat.not_lt_zero _)
        | succ f ih2 =>
          intro k hk hr hmu
          refine r_iload_n rfl 37 rfl d_Mod_judge_36 ?_
          refine r_aload_n rfl 38 rfl d_Mod_judge_37 ?_
          refine r_getf (v := .int (nI (ν 0))) gf_Mod_111 0 rfl rfl 41 rfl d_Mod_judge_38 ?_
          refine r_icmp_geN k (ν 0) (by omega) (by omega) 44 110 rfl rfl d_Mod_judge_41 (fun h41 => ?_) (fun h41 => ?_)
          · have n41 := Nat.not_lt.mpr h41
            refine r_bipush ((-5)) rfl 112 rfl d_Mod_judge_110 ?_
            exact r_iret rfl (Nat.zero_le _) (Nat.zero_le _) d_Mod_judge_112 (by rw [← hQ]; exact ⟨by rw [R_judge, if_pos h6, etN, if_pos hso, hr, show ν 0 - k = 0 by omega]; rfl, rfl⟩)
          · have n41 := Nat.not_le.mpr h41
            refine r_aload_n rfl 45 rfl d_Mod_judge_44 ?_
            refine r_getf (v := .ref (a 43)) gf_Mod_97 0 rfl rfl 48 rfl d_Mod_judge_45 ?_
            refine r_iload_n rfl 49 rfl d_Mod_judge_48 ?_
            refine r_iald 29 rfl tN rfl (by omega) (by omega) 50 rfl d_Mod_judge_49 ?_
            refine r_iconst ((-1)) rfl 51 rfl d_Mod_judge_50 ?_
            refine r_icmp_eq 54 74 rfl rfl d_Mod_judge_51 (fun h51 => ?_) (fun h51 => ?_)
            · refine r_bipush (nI 100) rfl 76 rfl d_Mod_judge_74 ?_
              refine r_iload_n rfl 77 rfl d_Mod_judge_76 ?_
              refine r_iadd 78 rfl d_Mod_judge_77 ?_
              refine r_topi (nI (100 + k)) (nI_add _ _) ?_
              exact r_iret rfl (Nat.zero_le _) (Nat.zero_le _) d_Mod_judge_78 (by rw [← hQ]; exact ⟨by rw [R_judge, if_pos h6, etN, if_pos hso, hr, judF_s h41, if_pos (Or.inl h51)], rfl⟩)
            · refine r_iload_n rfl 55 rfl d_Mod_judge_54 ?_
              refine r_if_lt 58 74 rfl rfl d_Mod_judge_55 (fun h55 => ?_) (fun h55 => ?_)
              · refine r_bipush (nI 100) rfl 76 rfl d_Mod_judge_74 ?_
                refine r_iload_n rfl 77 rfl d_Mod_judge_76 ?_
                refine r_iadd 78 rfl d_Mod_judge_77 ?_
                refine r_topi (nI (100 + k)) (nI_add _ _) ?_
                exact r_iret rfl (Nat.zero_le _) (Nat.zero_le _) d_Mod_judge_78 (by rw [← hQ]; exact ⟨by rw [R_judge, if_pos h6, etN, if_pos hso, hr, judF_s h41, if_pos (Or.inr (Or.inl h55))], rfl⟩)
              · obtain ⟨iN, hiN, rfl⟩ := nI_of h55
                refine r_iload_n rfl 59 rfl d_Mod_judge_58 ?_
                refine r_i2l 60 rfl d_Mod_judge_59 ?_
                refine r_topl (lN iN) (nI_l (by omega)) ?_
                refine r_iload_n rfl 61 rfl d_Mod_judge_60 ?_
                refine r_i2l 62 rfl d_Mod_judge_61 ?_
                refine r_topl (lN k) (nI_l (by omega)) ?_
                refine r_ladd 63 rfl d_Mod_judge_62 ?_
                refine r_topl (lN (iN + k)) (lN_add _ _) ?_
                refine r_aload_n rfl 64 rfl d_Mod_judge_63 ?_
                refine r_getf (v := .ref (a 44)) gf_Mod_100 0 rfl rfl 67 rfl d_Mod_judge_64 ?_
                refine r_iload_n rfl 68 rfl d_Mod_judge_67 ?_
                refine r_iald 30 rfl tN rfl (by omega) (by omega) 69 rfl d_Mod_judge_68 ?_
                obtain ⟨z, hz, ez⟩ := hsz tN (by omega)
                refine r_topi (nI z) ez ?_
                refine r_i2l 70 rfl d_Mod_judge_69 ?_
                refine r_topl (lN z) (nI_l (by omega)) ?_
                refine r_lcmp 71 rfl d_Mod_judge_70 ?_
                refine r_if_ltL (iN + k) z (by omega) (by omega) 74 79 rfl rfl d_Mod_judge_71 (fun h71 => ?_) (fun h71 => ?_)
                · have n71 := Nat.not_le.mpr h71
                  have hng : ¬ (σ 43 tN = -1 ∨ nI iN < 0 ∨ cn (σ 44 tN) ≤ cn (nI iN) + k) := fun y => by
                    rcases y with y | y | y
                    · exact h51 y
                    · exact h55 y
                    · rw [ez, cn_nI (by omega), cn_nI (by omega)] at y; omega
                  refine r_aload_n rfl 80 rfl d_Mod_judge_79 ?_
                  refine r_getf (v := .ref (a 45)) gf_Mod_103 0 rfl rfl 83 rfl d_Mod_judge_80 ?_
                  refine r_bipush (nI 60) rfl 85 rfl d_Mod_judge_83 ?_
                  refine r_iload_n rfl 86 rfl d_Mod_judge_85 ?_
                  refine r_imul 87 rfl d_Mod_judge_86 ?_
                  refine r_topi (nI (60 * tN)) (pk_mul _ _) ?_
                  refine r_iload_n rfl 88 rfl d_Mod_judge_87 ?_
                  refine r_iadd 89 rfl d_Mod_judge_88 ?_
                  refine r_topi (nI ((60 * tN) + iN)) (nI_add _ _) ?_
                  refine r_iload_n rfl 90 rfl d_Mod_judge_89 ?_
                  refine r_iadd 91 rfl d_Mod_judge_90 ?_
                  refine r_topi (nI (((60 * tN) + iN) + k)) (nI_add _ _) ?_
                  refine r_lald 31 rfl (((60 * tN) + iN) + k) rfl (by omega) (by omega) 92 rfl d_Mod_judge_91 ?_
                  refine r_aload_n rfl 93 rfl d_Mod_judge_92 ?_
                  refine r_iload_n rfl 94 rfl d_Mod_judge_93 ?_
                  refine r_callVA1 (st2 := [.int (bal (ν 0) (σ 5) k), .long (τ (((60 * tN) + iN) + k))]) (w2 := MW X a ν σ τ) lk_Mod_balance ln_Mod_131 (c_Mod_balance X a ν σ τ hn6 k (by omega)) (by first | decide | omega) rfl rfl (Nat.le_of_ble_eq_true rfl) (Nat.le_of_ble_eq_true rfl) (Nat.le_of_ble_eq_true rfl) 0 rfl rfl rfl rfl 97 rfl d_Mod_judge_94 ?_
                  refine r_i2l 98 rfl d_Mod_judge_97 ?_
                  refine r_lcmp 99 rfl d_Mod_judge_98 ?_
                  refine r_if_eq 102 104 rfl rfl d_Mod_judge_99 (fun h99 => ?_) (fun h99 => ?_)
                  · refine r_iinc (ls2 := [some (.ref (a 0)), some (.int (nI tN)), some (.int (nI iN)), some (.int (nI (k + 1)))]) (nI (k + 1)) rfl (nI_1 _) 107 rfl d_Mod_judge_104 (by decide) rfl rfl ?_
                    refine r_goto 36 rfl d_Mod_judge_107 ?_
                    exact ih2 (k + 1) (by omega) (by rw [hr, judF_s h41, if_neg hng, cn_nI (n := iN) (by omega), if_pos ((lg_cmp_eq _ _).mp h99)]) (by omega)
                  · refine r_iload_n rfl 103 rfl d_Mod_judge_102 ?_
                    exact r_iret rfl (Nat.zero_le _) (Nat.zero_le _) d_Mod_judge_103 (by rw [← hQ]; exact ⟨by rw [R_judge, if_pos h6, etN, if_pos hso, hr, judF_s h41, if_neg hng, cn_nI (n := iN) (by omega), if_neg (fun z => h99 ((lg_cmp_eq _ _).mpr z))], rfl⟩)
                · have n71 := Nat.not_lt.mpr h71
                  refine r_bipush (nI 100) rfl 76 rfl d_Mod_judge_74 ?_
                  refine r_iload_n rfl 77 rfl d_Mod_judge_76 ?_
                  refine r_iadd 78 rfl d_Mod_judge_77 ?_
                  refine r_topi (nI (100 + k)) (nI_add _ _) ?_
                  exact r_iret rfl (Nat.zero_le _) (Nat.zero_le _) d_Mod_judge_78 (by rw [← hQ]; exact ⟨by rw [R_judge, if_pos h6, etN, if_pos hso, hr, judF_s h41, if_pos (Or.inr (Or.inr (by rw [ez, cn_nI (by omega), cn_nI (by omega)]; exact h71)))], rfl⟩)
      exact L36_1 _ 0 (Nat.zero_le _) (rfl) (Nat.lt_succ_self _)
    · refine r_aload_n rfl 22 rfl d_Mod_judge_21 ?_
      refine r_getf (v := .ref (a 43)) gf_Mod_97 0 rfl rfl 25 rfl d_Mod_judge_22 ?_
      refine r_iload_n rfl 26 rfl d_Mod_judge_25 ?_
      refine r_iald 29 rfl tN rfl (by omega) (by omega) 27 rfl d_Mod_judge_26 ?_
      refine r_iconst (nI 2) rfl 28 rfl d_Mod_judge_27 ?_
      refine r_icmp_eq 31 34 rfl rfl d_Mod_judge_28 (fun h28 => ?_) (fun h28 => ?_)
      · have hso : σ 43 tN = -1 ∨ σ 43 tN = nI 2 := by first | exact Or.inl h18 | exact Or.inr h28
        refine r_iconst (nI 0) rfl 35 rfl d_Mod_judge_34 ?_
        refine r_istore_n (ls2 := [some (.ref (a 0)), some (.int (nI tN)), some (.int i), some (.int (nI 0))]) 36 rfl d_Mod_judge_35 (by decide) rfl rfl ?_
        have L36_3 : ∀ (f : Nat) (k : Nat), (k ≤ ν 0) → (judF (ν 0) (σ 5) (σ 43 tN) (σ 44 tN) τ (60 * tN) i (ν 0) = judF (ν 0) (σ 5) (σ 43 tN) (σ 44 tN) τ (60 * tN) i (ν 0 - k)) → ν 0 - k < f → Runs X 4 M_Mod_judge 0 0 Q 36 [some (.ref (a 0)), some (.int (nI tN)), some (.int i), some (.int (nI k))] [] 0 0 (MW X a ν σ τ) := by
          intro f
          induction f with
          | zero => intro k hk hr hmu; exact absurd hmu (Nat.not_lt_zero _)
          | succ f ih4 =>
            intro k hk hr hmu
            refine r_iload_n rfl 37 rfl d_Mod_judge_36 ?_
            refine r_aload_n rfl 38 rfl d_Mod_judge_37 ?_
            refine r_getf (v := .int (nI (ν 0))) gf_Mod_111 0 rfl rfl 41 rfl d_Mod_judge_38 ?_
            refine r_icmp_geN k (ν 0) (by omega) (by omega) 44 110 rfl rfl d_Mod_judge_41 (fun h41 => ?_) (fun h41 => ?_)
            · have n41 := Nat.not_lt.mpr h41
              refine r_bipush ((-5)) rfl 112 rfl d_Mod_judge_110 ?_
              exact r_iret rfl (Nat.zero_le _) (Nat.zero_le _) d_Mod_judge_112 (by rw [← hQ]; exact ⟨by rw [R_judge, if_pos h6, etN, if_pos hso, hr, show ν 0 - k = 0 by omega]; rfl, rfl⟩)
            · have n41 := Nat.not_le.mpr h41
              refine r_aload_n rfl 45 rfl d_Mod_judge_44 ?_
              refine r_getf (v := .ref (a 43)) gf_Mod_97 0 rfl rfl 48 rfl d_Mod_judge_45 ?_
              refine r_iload_n rfl 49 rfl d_Mod_judge_48 ?_
              refine r_iald 29 rfl tN rfl (by omega) (by omega) 50 rfl d_Mod_judge_49 ?_
              refine r_iconst ((-1)) rfl 51 rfl d_Mod_judge_50 ?_
              refine r_icmp_eq 54 74 rfl rfl d_Mod_judge_51 (fun h51 => ?_) (fun h51 => ?_)
              · refine r_bipush (nI 100) rfl 76 rfl d_Mod_judge_74 ?_
                refine r_iload_n rfl 77 rfl d_Mod_judge_76 ?_
                refine r_iadd 78 rfl d_Mod_judge_77 ?_
                refine r_topi (nI (100 + k)) (nI_add _ _) ?_
                exact r_iret rfl (Nat.zero_le _) (Nat.zero_le _) d_Mod_judge_78 (by rw [← hQ]; exact ⟨by rw [R_judge, if_pos h6, etN, if_pos hso, hr, judF_s h41, if_pos (Or.inl h51)], rfl⟩)
              · refine r_iload_n rfl 55 rfl d_Mod_judge_54 ?_
                refine r_if_lt 58 74 rfl rfl d_Mod_judge_55 (fun h55 => ?_) (fun h55 => ?_)
                · refine r_bipush (nI 100) rfl 76 rfl d_Mod_judge_74 ?_
                  refine r_iload_n rfl 77 rfl d_Mod_judge_76 ?_
                  refine r_iadd 78 rfl d_Mod_judge_77 ?_
                  refine r_topi (nI (100 + k)) (nI_add _ _) ?_
                  exact r_iret rfl (Nat.zero_le _) (Nat.zero_le _) d_Mod_judge_78 (by rw [← hQ]; exact ⟨by rw [R_judge, if_pos h6, etN, if_pos hso, hr, judF_s h41, if_pos (Or.inr (Or.inl h55))], rfl⟩)
                · obtain ⟨iN, hiN, rfl⟩ := nI_of h55
                  refine r_iload_n rfl 59 rfl d_Mod_judge_58 ?_
                  refine r_i2l 60 rfl d_Mod_judge_59 ?_
                  refine r_topl (lN iN) (nI_l (by omega)) ?_
                  refine r_iload_n rfl 61 rfl d_Mod_judge_60 ?_
                  refine r_i2l 62 rfl d_Mod_judge_61 ?_
                  refine r_topl (lN k) (nI_l (by omega)) ?_
                  refine r_ladd 63 rfl d_Mod_judge_62 ?_
                  refine r_topl (lN (iN + k)) (lN_add _ _) ?_
                  refine r_aload_n rfl 64 rfl d_Mod_judge_63 ?_
                  refine r_getf (v := .ref (a 44)) gf_Mod_100 0 rfl rfl 67 rfl d_Mod_judge_64 ?_
                  refine r_iload_n rfl 68 rfl d_Mod_judge_67 ?_
                  refine r_iald 30 rfl tN rfl (by omega) (by omega) 69 rfl d_Mod_judge_68 ?_
                  obtain ⟨z, hz, ez⟩ := hsz tN (by omega)
                  refine r_topi (nI z) ez ?_
                  refine r_i2l 70 rfl d_Mod_judge_69 ?_
                  refine r_topl (lN z) (nI_l (by omega)) ?_
                  refine r_lcmp 71 rfl d_Mod_judge_70 ?_
                  refine r_if_ltL (iN + k) z (by omega) (by omega) 74 79 rfl rfl d_Mod_judge_71 (fun h71 => ?_) (fun h71 => ?_)
                  · have n71 := Nat.not_le.mpr h71
                    have hng : ¬ (σ 43 tN = -1 ∨ nI iN < 0 ∨ cn (σ 44 tN) ≤ cn (nI iN) + k) := fun y => by
                      rcases y with y | y | y
                      · exact h51 y
                      · exact h55 y
                      · rw [ez, cn_nI (by omega), cn_nI (by omega)] at y; omega
                    refine r_aload_n rfl 80 rfl d_Mod_judge_79 ?_
                    refine r_getf (v := .ref (a 45)) gf_Mod_103 0 rfl rfl 83 rfl d_Mod_judge_80 ?_
                    refine r_bipush (nI 60) rfl 85 rfl d_Mod_judge_83 ?_
                    refine r_iload_n rfl 86 rfl d_Mod_judge_85 ?_
                    refine r_imul 87 rfl d_Mod_judge_86 ?_
                    refine r_topi (nI (60 * tN)) (pk_mul _ _) ?_
                    refine r_iload_n rfl 88 rfl d_Mod_judge_87 ?_
                    refine r_iadd 89 rfl d_Mod_judge_88 ?_
                    refine r_topi (nI ((60 * tN) + iN)) (nI_add _ _) ?_
                    refine r_iload_n rfl 90 rfl d_Mod_judge_89 ?_
                    refine r_iadd 91 rfl d_Mod_judge_90 ?_
                    refine r_topi (nI (((60 * tN) + iN) + k)) (nI_add _ _) ?_
                    refine r_lald 31 rfl (((60 * tN) + iN) + k) rfl (by omega) (by omega) 92 rfl d_Mod_judge_91 ?_
                    refine r_aload_n rfl 93 rfl d_Mod_judge_92 ?_
                    refine r_iload_n rfl 94 rfl d_Mod_judge_93 ?_
                    refine r_callVA1 (st2 := [.int (bal (ν 0) (σ 5) k), .long (τ (((60 * tN) + iN) + k))]) (w2 := MW X a ν σ τ) lk_Mod_balance ln_Mod_131 (c_Mod_balance X a ν σ τ hn6 k (by omega)) (by first | decide | omega) rfl rfl (Nat.le_of_ble_eq_true rfl) (Nat.le_of_ble_eq_true rfl) (Nat.le_of_ble_eq_true rfl) 0 rfl rfl rfl rfl 97 rfl d_Mod_judge_94 ?_
                    refine r_i2l 98 rfl d_Mod_judge_97 ?_
                    refine r_lcmp 99 rfl d_Mod_judge_98 ?_
                    refine r_if_eq 102 104 rfl rfl d_Mod_judge_99 (fun h99 => ?_) (fun h99 => ?_)
                    · refine r_iinc (ls2 := [some (.ref (a 0)), some (.int (nI tN)), some (.int (nI iN)), some (.int (nI (k + 1)))]) (nI (k + 1)) rfl (nI_1 _) 107 rfl d_Mod_judge_104 (by decide) rfl rfl ?_
                      refine r_goto 36 rfl d_Mod_judge_107 ?_
                      exact ih4 (k + 1) (by omega) (by rw [hr, judF_s h41, if_neg hng, cn_nI (n := iN) (by omega), if_pos ((lg_cmp_eq _ _).mp h99)]) (by omega)
                    · refine r_iload_n rfl 103 rfl d_Mod_judge_102 ?_
                      exact r_iret rfl (Nat.zero_le _) (Nat.zero_le _) d_Mod_judge_103 (by rw [← hQ]; exact ⟨by rw [R_judge, if_pos h6, etN, if_pos hso, hr, judF_s h41, if_neg hng, cn_nI (n := iN) (by omega), if_neg (fun z => h99 ((lg_cmp_eq _ _).mpr z))], rfl⟩)
                  · have n71 := Nat.not_lt.mpr h71
                    refine r_bipush (nI 100) rfl 76 rfl d_Mod_judge_74 ?_
                    refine r_iload_n rfl 77 rfl d_Mod_judge_76 ?_
                    refine r_iadd 78 rfl d_Mod_judge_77 ?_
                    refine r_topi (nI (100 + k)) (nI_add _ _) ?_
                    exact r_iret rfl (Nat.zero_le _) (Nat.zero_le _) d_Mod_judge_78 (by rw [← hQ]; exact ⟨by rw [R_judge, if_pos h6, etN, if_pos hso, hr, judF_s h41, if_pos (Or.inr (Or.inr (by rw [ez, cn_nI (by omega), cn_nI (by omega)]; exact h71)))], rfl⟩)
        exact L36_3 _ 0 (Nat.zero_le _) (rfl) (Nat.lt_succ_self _)
      · refine r_bipush ((-12)) rfl 33 rfl d_Mod_judge_31 ?_
        exact r_iret rfl (Nat.zero_le _) (Nat.zero_le _) d_Mod_judge_33 (by rw [← hQ]; exact ⟨by rw [R_judge, if_pos h6, etN, if_neg (fun z => z.elim h18 h28)], rfl⟩)
  · refine r_iconst ((-1)) rfl 10 rfl d_Mod_judge_9 ?_
    exact r_iret rfl (Nat.zero_le _) (Nat.zero_le _) d_Mod_judge_10 (by rw [← hQ]; exact ⟨by rw [R_judge, if_neg (by rw [h6]; decide)], rfl⟩)
theorem c_Mod_shift (X : Xn) (a ν : Nat → Nat) (σ : Nat → Nat → Int32) (τ : Nat → Int64) (hn6 : ν 0 ≤ 6) (hsz : ∀ t, t < 6 → ∃ z : Nat, z ≤ 60 ∧ σ 44 t = nI z) (t i o j n : Int32) : Does X 4 M_Mod_shift [.ref (a 0), .int t, .int i, .int o, .int j, .int n] (MW X a ν σ τ) 0 0 (fun (vv : Option Value) (ww : va_W) => vv = some (.int (R_shift (σ 43) (σ 44) t i o j n)) ∧ ww = MW X a ν σ (if b_shift (σ 43) (σ 44) t i o j n = true then va_cpy τ τ (60 * cn t + cn i) (60 * cn o + cn j) (cn n) else τ)) := by
  generalize hQ : (fun (vv : Option Value) (ww : va_W) => vv = some (.int (R_shift (σ 43) (σ 44) t i o j n)) ∧ ww = MW X a ν σ (if b_shift (σ 43) (σ 44) t i o j n = true then va_cpy τ τ (60 * cn t + cn i) (60 * cn o + cn j) (cn n) else τ)) = Q
  refine Does.go rfl (Nat.le_of_ble_eq_true rfl) [some (.ref (a 0)), some (.int t), some (.int i), some (.int o), some (.int j), some (.int n), none] 1 rfl ?_
  refine r_iload_n rfl 1 rfl d_Mod_shift_0 ?_
  refine r_callS1 (st2 := [.int (bI (inR t (nI 0) (nI 5)))]) (w2 := MW X a ν σ τ) lk_Mod_isTape ln_Mod_345 (c_Mod_isTape X t) (by first | decide | omega) rfl rfl (Nat.le_of_ble_eq_true rfl) (Nat.le_of_ble_eq_true rfl) (Nat.le_of_ble_eq_true rfl) [] rfl rfl rfl rfl rfl 4 rfl d_Mod_shift_1 ?_
  refine r_if_eqB 7 14 rfl rfl d_Mod_shift_4 (fun h4 => ?_) (fun h4 => ?_)
  · refine r_iconst ((-1)) rfl 15 rfl d_Mod_shift_14 ?_
    exact r_iret rfl (Nat.zero_le _) (Nat.zero_le _) d_Mod_shift_15 (by rw [← hQ]; exact ⟨by unfold R_shift; rw [if_neg (fun z => absurd z.1 (by rw [h4]; decide))], by rw [if_neg (fun z => by simp only [b_shift, Bool.and_eq_true] at z; exact absurd z.1.1 (by rw [h4]; decide))]⟩)
  · obtain ⟨tN, htN, rfl⟩ := inR_t (by decide) h4
    have etN : cn (nI tN) = tN := cn_nI (by omega)
    have mtN : ¬ nI tN = -1 := m1n (by omega)
    refine r_iload_n rfl 8 rfl d_Mod_shift_7 ?_
    refine r_callS1 (st2 := [.int (bI (inR o (nI 0) (nI 5)))]) (w2 := MW X a ν σ τ) lk_Mod_isTape ln_Mod_345 (c_Mod_isTape X o) (by first | decide | omega) rfl rfl (Nat.le_of_ble_eq_true rfl) (Nat.le_of_ble_eq_true rfl) (Nat.le_of_ble_eq_true rfl) [] rfl rfl rfl rfl rfl 11 rfl d_Mod_shift_8 ?_
    refine r_if_neB 14 16 rfl rfl d_Mod_shift_11 (fun h11 => ?_) (fun h11 => ?_)
    · obtain ⟨oN, hoN, rfl⟩ := inR_t (by decide) h11
      have eoN : cn (nI oN) = oN := cn_nI (by omega)
      have moN : ¬ nI oN = -1 := m1n (by omega)
      refine r_aload_n rfl 17 rfl d_Mod_shift_16 ?_
      refine r_getf (v := .ref (a 43)) gf_Mod_97 0 rfl rfl 20 rfl d_Mod_shift_17 ?_
      refine r_iload_n rfl 21 rfl d_Mod_shift_20 ?_
      refine r_iald 29 rfl tN rfl (by omega) (by omega) 22 rfl d_Mod_shift_21 ?_
      refine r_if_lt 25 34 rfl rfl d_Mod_shift_22 (fun h22 => ?_) (fun h22 => ?_)
      · have hsn : σ 43 tN < 0 ∨ σ 43 oN < 0 := Or.inl h22
        refine r_bipush ((-11)) rfl 36 rfl d_Mod_shift_34 ?_
        exact r_iret rfl (Nat.zero_le _) (Nat.zero_le _) d_Mod_shift_36 (by rw [← hQ]; exact ⟨by unfold R_shift; rw [if_pos ⟨h4, h11⟩, etN, eoN, if_pos hsn], by rw [if_neg (fun z => by simp only [b_shift, Bool.and_eq_true, decide_eq_true_eq, etN, eoN] at z; exact hsn.elim (fun y => absurd z.2.1.1 (Int32.not_le.mpr y)) (fun y => absurd z.2.1.2 (Int32.not_le.mpr y)))]⟩)
      · refine r_aload_n rfl 26 rfl d_Mod_shift_25 ?_
        refine r_getf (v := .ref (a 43)) gf_Mod_97 0 rfl rfl 29 rfl d_Mod_shift_26 ?_
        refine r_iload_n rfl 30 rfl d_Mod_shift_29 ?_
        refine r_iald 29 rfl oN rfl (by omega) (by omega) 31 rfl d_Mod_shift_30 ?_
        refine r_if_ge 34 37 rfl rfl d_Mod_shift_31 (fun h31 => ?_) (fun h31 => ?_)
        · have hsn : ¬ (σ 43 tN < 0 ∨ σ 43 oN < 0) := fun z => z.elim h22 (Int32.not_lt.mpr h31)
          refine r_aload_n rfl 38 rfl d_Mod_shift_37 ?_
          refine r_getf (v := .ref (a 43)) gf_Mod_97 0 rfl rfl 41 rfl d_Mod_shift_38 ?_
          refine r_iload_n rfl 42 rfl d_Mod_shift_41 ?_
          refine r_iald 29 rfl tN rfl (by omega) (by omega) 43 rfl d_Mod_shift_42 ?_
          refine r_aload_n rfl 44 rfl d_Mod_shift_43 ?_
          refine r_getf (v := .ref (a 43)) gf_Mod_97 0 rfl rfl 47 rfl d_Mod_shift_44 ?_
          refine r_iload_n rfl 48 rfl d_Mod_shift_47 ?_
          refine r_iald 29 rfl oN rfl (by omega) (by omega) 49 rfl d_Mod_shift_48 ?_
          refine r_icmp_eq 52 55 rfl rfl d_Mod_shift_49 (fun h49 => ?_) (fun h49 => ?_)
          · refine r_iload rfl 57 rfl d_Mod_shift_55 ?_
            refine r_if_lt 60 104 rfl rfl d_Mod_shift_57 (fun h57 => ?_) (fun h57 => ?_)
            · have hbad : ¬ b_shift (σ 43) (σ 44) (nI tN) i (nI oN) j n = true := fun z => by simp only [b_shift, Bool.and_eq_true, decide_eq_true_eq, etN, eoN] at z; exact absurd z.2.2.2.1.1 (Int32.not_le.mpr h57)
              refine r_bipush ((-13)) rfl 106 rfl d_Mod_shift_104 ?_
              exact r_iret rfl (Nat.zero_le _) (Nat.zero_le _) d_Mod_shift_106 (by rw [← hQ]; exact ⟨by unfold R_shift; rw [if_pos ⟨h4, h11⟩, etN, eoN, if_neg hsn, if_pos h49, if_neg (fun z => hbad z)], by rw [if_neg hbad]⟩)
            · obtain ⟨nN, hnN, rfl⟩ := nI_of h57
              refine r_iload_n rfl 61 rfl d_Mod_shift_60 ?_
              refine r_if_lt 64 104 rfl rfl d_Mod_shift_61 (fun h61 => ?_) (fun h61 => ?_)
              · have hbad : ¬ b_shift (σ 43) (σ 44) (nI tN) i (nI oN) j (nI nN) = true := fun z => by simp only [b_shift, Bool.and_eq_true, decide_eq_true_eq, etN, eoN] at z; exact absurd z.2.2.2.1.2.1 (Int32.not_le.mpr h61)
                refine r_bipush ((-13)) rfl 106 rfl d_Mod_shift_104 ?_
                exact r_iret rfl (Nat.zero_le _) (Nat.zero_le _) d_Mod_shift_106 (by rw [← hQ]; exact ⟨by unfold R_shift; rw [if_pos ⟨h4, h11⟩, etN, eoN, if_neg hsn, if_pos h49, if_neg (fun z => hbad z)], by rw [if_neg hbad]⟩)
              · obtain ⟨iN, hiN, rfl⟩ := nI_of h61
                refine r_iload rfl 66 rfl d_Mod_shift_64 ?_
                refine r_if_lt 69 104 rfl rfl d_Mod_shift_66 (fun h66 => ?_) (fun h66 => ?_)
                · have hbad : ¬ b_shift (σ 43) (σ 44) (nI tN) (nI iN) (nI oN) j (nI nN) = true := fun z => by simp only [b_shift, Bool.and_eq_true, decide_eq_true_eq, etN, eoN] at z; exact absurd z.2.2.2.1.2.2 (Int32.not_le.mpr h66)
                  refine r_bipush ((-13)) rfl 106 rfl d_Mod_shift_104 ?_
                  exact r_iret rfl (Nat.zero_le _) (Nat.zero_le _) d_Mod_shift_106 (by rw [← hQ]; exact ⟨by unfold R_shift; rw [if_pos ⟨h4, h11⟩, etN, eoN, if_neg hsn, if_pos h49, if_neg (fun z => hbad z)], by rw [if_neg hbad]⟩)
                · obtain ⟨jN, hjN, rfl⟩ := nI_of h66
                  refine r_iload_n rfl 70 rfl d_Mod_shift_69 ?_
                  refine r_i2l 71 rfl d_Mod_shift_70 ?_
                  refine r_topl (lN iN) (nI_l (by omega)) ?_
                  refine r_iload rfl 73 rfl d_Mod_shift_71 ?_
                  refine r_i2l 74 rfl d_Mod_shift_73 ?_
                  refine r_topl (lN nN) (nI_l (by omega)) ?_
                  refine r_ladd 75 rfl d_Mod_shift_74 ?_
                  refine r_topl (lN (iN + nN)) (lN_add _ _) ?_
                  refine r_aload_n rfl 76 rfl d_Mod_shift_75 ?_
                  refine r_getf (v := .ref (a 44)) gf_Mod_100 0 rfl rfl 79 rfl d_Mod_shift_76 ?_
                  refine r_iload_n rfl 80 rfl d_Mod_shift_79 ?_
                  refine r_iald 30 rfl tN rfl (by omega) (by omega) 81 rfl d_Mod_shift_80 ?_
                  obtain ⟨z, hz, ez⟩ := hsz tN (by omega)
                  refine r_topi (nI z) ez ?_
                  refine r_i2l 82 rfl d_Mod_shift_81 ?_
                  refine r_topl (lN z) (nI_l (by omega)) ?_
                  refine r_lcmp 83 rfl d_Mod_shift_82 ?_
                  refine r_if_gtL (iN + nN) z (by omega) (by omega) 86 104 rfl rfl d_Mod_shift_83 (fun h83 => ?_) (fun h83 => ?_)
                  · have n83 := Nat.not_le.mpr h83
                    have hbad : ¬ b_shift (σ 43) (σ 44) (nI tN) (nI iN) (nI oN) (nI jN) (nI nN) = true := fun z => by simp only [b_shift, Bool.and_eq_true, decide_eq_true_eq, etN, eoN] at z; have z2 := z.2.2.2.2.1; rw [ez, cn_nI (by omega), cn_nI (by omega), cn_nI (by omega)] at z2; omega
                    refine r_bipush ((-13)) rfl 106 rfl d_Mod_shift_104 ?_
                    exact r_iret rfl (Nat.zero_le _) (Nat.zero_le _) d_Mod_shift_106 (by rw [← hQ]; exact ⟨by unfold R_shift; rw [if_pos ⟨h4, h11⟩, etN, eoN, if_neg hsn, if_pos h49, if_neg (fun z => hbad z)], by rw [if_neg hbad]⟩)
                  · have n83 := Nat.not_lt.mpr h83
                    refine r_iload rfl 88 rfl d_Mod_shift_86 ?_
                    refine r_i2l 89 rfl d_Mod_shift_88 ?_
                    refine r_topl (lN jN) (nI_l (by omega)) ?_
                    refine r_iload rfl 91 rfl d_Mod_shift_89 ?_
                    refine r_i2l 92 rfl d_Mod_shift_91 ?_
                    refine r_topl (lN nN) (nI_l (by omega)) ?_
                    refine r_ladd 93 rfl d_Mod_shift_92 ?_
                    refine r_topl (lN (jN + nN)) (lN_add _ _) ?_
                    refine r_aload_n rfl 94 rfl d_Mod_shift_93 ?_
                    refine r_getf (v := .ref (a 44)) gf_Mod_100 0 rfl rfl 97 rfl d_Mod_shift_94 ?_
                    refine r_iload_n rfl 98 rfl d_Mod_shift_97 ?_
                    refine r_iald 30 rfl oN rfl (by omega) (by omega) 99 rfl d_Mod_shift_98 ?_
                    obtain ⟨y, hy, ey⟩ := hsz oN (by omega)
                    refine r_topi (nI y) ey ?_
                    refine r_i2l 100 rfl d_Mod_shift_99 ?_
                    refine r_topl (lN y) (nI_l (by omega)) ?_
                    refine r_lcmp 101 rfl d_Mod_shift_100 ?_
                    refine r_if_leL (jN + nN) y (by omega) (by omega) 104 107 rfl rfl d_Mod_shift_101 (fun h101 => ?_) (fun h101 => ?_)
                    · have n101 := Nat.not_lt.mpr h101
                      have hgood : b_shift (σ 43) (σ 44) (nI tN) (nI iN) (nI oN) (nI jN) (nI nN) = true := by
                        simp only [b_shift, Bool.and_eq_true, decide_eq_true_eq, etN, eoN, ez, ey]
                        rw [cn_nI (by omega), cn_nI (by omega), cn_nI (by omega), cn_nI (by omega), cn_nI (by omega)]
                        exact ⟨⟨h4, h11⟩, ⟨Int32.not_lt.mp (fun q => hsn (Or.inl q)), Int32.not_lt.mp (fun q => hsn (Or.inr q))⟩, h49, ⟨⟨Int32.not_lt.mp h57, Int32.not_lt.mp h61, Int32.not_lt.mp h66⟩, h83, h101⟩⟩
                      refine r_iload_n rfl 108 rfl d_Mod_shift_107 ?_
                      refine r_iload_n rfl 109 rfl d_Mod_shift_108 ?_
                      refine r_icmp_neN tN oN (by omega) (by omega) 112 167 rfl rfl d_Mod_shift_109 (fun h109 => ?_) (fun h109 => ?_)
                      · have hdis : ∀ k : Nat, k < nN → 60 * tN + iN + k < 60 * oN + jN ∨ 60 * oN + jN + k ≤ 60 * tN + iN + k := fun k hk => by omega
                        refine r_iconst (nI 0) rfl 168 rfl d_Mod_shift_167 ?_
                        refine r_istore (ls2 := [some (.ref (a 0)), some (.int (nI tN)), some (.int (nI iN)), some (.int (nI oN)), some (.int (nI jN)), some (.int (nI nN)), some (.int (nI 0))]) 170 rfl d_Mod_shift_168 (by decide) rfl rfl ?_
                        have L170_1 : ∀ (f : Nat) (k : Nat), (k ≤ nN) → nN - k < f → Runs X 4 M_Mod_shift 0 0 Q 170 [some (.ref (a 0)), some (.int (nI tN)), some (.int (nI iN)), some (.int (nI oN)), some (.int (nI jN)), some (.int (nI nN)), some (.int (nI k))] [] 0 0 (MW X a ν σ (va_cpy τ τ ((60 * tN + iN)) ((60 * oN + jN)) (k))) := by
                          intro f
                          induction f with
                          | zero => intro k hk hmu; exact absurd hmu (Nat.not_lt_zero _)
                          | succ f ih2 =>
                            intro k hk hmu
                            refine r_iload rfl 172 rfl d_Mod_shift_170 ?_
                            refine r_iload rfl 174 rfl d_Mod_shift_172 ?_
                            refine r_icmp_geN k nN (by omega) (by omega) 177 212 rfl rfl d_Mod_shift_174 (fun h174 => ?_) (fun h174 => ?_)
                            · have n174 := Nat.not_lt.mpr h174
                              refine r_iload rfl 214 rfl d_Mod_shift_212 ?_
                              exact r_iret rfl (Nat.zero_le _) (Nat.zero_le _) d_Mod_shift_214 (by rw [← hQ]; exact ⟨by unfold R_shift; rw [if_pos ⟨h4, h11⟩, etN, eoN, if_neg hsn, if_pos h49, if_pos hgood], by rw [if_pos hgood, etN, eoN, cn_nI (by omega), cn_nI (by omega), cn_nI (by omega), show k = nN by omega]⟩)
                            · have n174 := Nat.not_le.mpr h174
                              refine r_aload_n rfl 178 rfl d_Mod_shift_177 ?_
                              refine r_getf (v := .ref (a 45)) gf_Mod_103 0 rfl rfl 181 rfl d_Mod_shift_178 ?_
                              refine r_bipush (nI 60) rfl 183 rfl d_Mod_shift_181 ?_
                              refine r_iload_n rfl 184 rfl d_Mod_shift_183 ?_
                              refine r_imul 185 rfl d_Mod_shift_184 ?_
                              refine r_topi (nI (60 * oN)) (pk_mul _ _) ?_
                              refine r_iload rfl 187 rfl d_Mod_shift_185 ?_
                              refine r_iadd 188 rfl d_Mod_shift_187 ?_
                              refine r_topi (nI ((60 * oN) + jN)) (nI_add _ _) ?_
                              refine r_iload rfl 190 rfl d_Mod_shift_188 ?_
                              refine r_iadd 191 rfl d_Mod_shift_190 ?_
                              refine r_topi (nI (((60 * oN) + jN) + k)) (nI_add _ _) ?_
                              refine r_aload_n rfl 192 rfl d_Mod_shift_191 ?_
                              refine r_getf (v := .ref (a 45)) gf_Mod_103 0 rfl rfl 195 rfl d_Mod_shift_192 ?_
                              refine r_bipush (nI 60) rfl 197 rfl d_Mod_shift_195 ?_
                              refine r_iload_n rfl 198 rfl d_Mod_shift_197 ?_
                              refine r_imul 199 rfl d_Mod_shift_198 ?_
                              refine r_topi (nI (60 * tN)) (pk_mul _ _) ?_
                              refine r_iload_n rfl 200 rfl d_Mod_shift_199 ?_
                              refine r_iadd 201 rfl d_Mod_shift_200 ?_
                              refine r_topi (nI ((60 * tN) + iN)) (nI_add _ _) ?_
                              refine r_iload rfl 203 rfl d_Mod_shift_201 ?_
                              refine r_iadd 204 rfl d_Mod_shift_203 ?_
                              refine r_topi (nI (((60 * tN) + iN) + k)) (nI_add _ _) ?_
                              refine r_lald 31 rfl (((60 * tN) + iN) + k) rfl (by omega) (by omega) 205 rfl d_Mod_shift_204 ?_
                              refine r_last (w2 := MW X a ν σ (vp_updL (va_cpy τ τ ((60 * tN + iN)) ((60 * oN + jN)) (k)) (((60 * oN) + jN) + k) (va_cpy τ τ ((60 * tN + iN)) ((60 * oN + jN)) (k) (((60 * tN) + iN) + k)))) 31 rfl (((60 * oN) + jN) + k) rfl (by omega) (by omega) rfl 206 rfl d_Mod_shift_205 ?_
                              refine r_iinc (ls2 := [some (.ref (a 0)), some (.int (nI tN)), some (.int (nI iN)), some (.int (nI oN)), some (.int (nI jN)), some (.int (nI nN)), some (.int (nI (k + 1)))]) (nI (k + 1)) rfl (nI_1 _) 209 rfl d_Mod_shift_206 (by decide) rfl rfl ?_
                              refine r_goto 170 rfl d_Mod_shift_209 ?_
                              refine Runs.cast (ih2 (k + 1) (by omega) (by omega)) (rfl) rfl (by rw [show 60 * oN + jN + k = (60 * oN + jN) + k from rfl, cpyL_f (hdis k (by omega))]; try rfl)
                        refine Runs.cast (L170_1 _ 0 (Nat.zero_le _) (Nat.lt_succ_self _)) (rfl) rfl (by rw [cpyL_0])
                      · refine r_iload_n rfl 113 rfl d_Mod_shift_112 ?_
                        refine r_iload rfl 115 rfl d_Mod_shift_113 ?_
                        refine r_icmp_geN iN jN (by omega) (by omega) 118 167 rfl rfl d_Mod_shift_115 (fun h115 => ?_) (fun h115 => ?_)
                        · have n115 := Nat.not_lt.mpr h115
                          have hdis : ∀ k : Nat, k < nN → 60 * tN + iN + k < 60 * oN + jN ∨ 60 * oN + jN + k ≤ 60 * tN + iN + k := fun k hk => by omega
                          refine r_iconst (nI 0) rfl 168 rfl d_Mod_shift_167 ?_
                          refine r_istore (ls2 := [some (.ref (a 0)), some (.int (nI tN)), some (.int (nI iN)), some (.int (nI oN)), some (.int (nI jN)), some (.int (nI nN)), some (.int (nI 0))]) 170 rfl d_Mod_shift_168 (by decide) rfl rfl ?_
                          have L170_3 : ∀ (f : Nat) (k : Nat), (k ≤ nN) → nN - k < f → Runs X 4 M_Mod_shift 0 0 Q 170 [some (.ref (a 0)), some (.int (nI tN)), some (.int (nI iN)), some (.int (nI oN)), some (.int (nI jN)), some (.int (nI nN)), some (.int (nI k))] [] 0 0 (MW X a ν σ (va_cpy τ τ ((60 * tN + iN)) ((60 * oN + jN)) (k))) := by
                            intro f
                            induction f with
                            | zero => intro k hk hmu; exact absurd hmu (Nat.not_lt_zero _)
                            | succ f ih4 =>
                              intro k hk hmu
                              refine r_iload rfl 172 rfl d_Mod_shift_170 ?_
                              refine r_iload rfl 174 rfl d_Mod_shift_172 ?_
                              refine r_icmp_geN k nN (by omega) (by omega) 177 212 rfl rfl d_Mod_shift_174 (fun h174 => ?_) (fun h174 => ?_)
                              · have n174 := Nat.not_lt.mpr h174
                                refine r_iload rfl 214 rfl d_Mod_shift_212 ?_
                                exact r_iret rfl (Nat.zero_le _) (Nat.zero_le _) d_Mod_shift_214 (by rw [← hQ]; exact ⟨by unfold R_shift; rw [if_pos ⟨h4, h11⟩, etN, eoN, if_neg hsn, if_pos h49, if_pos hgood], by rw [if_pos hgood, etN, eoN, cn_nI (by omega), cn_nI (by omega), cn_nI (by omega), show k = nN by omega]⟩)
                              · have n174 := Nat.not_le.mpr h174
                                refine r_aload_n rfl 178 rfl d_Mod_shift_177 ?_
                                refine r_getf (v := .ref (a 45)) gf_Mod_103 0 rfl rfl 181 rfl d_Mod_shift_178 ?_
                                refine r_bipush (nI 60) rfl 183 rfl d_Mod_shift_181 ?_
                                refine r_iload_n rfl 184 rfl d_Mod_shift_183 ?_
                                refine r_imul 185 rfl d_Mod_shift_184 ?_
                                refine r_topi (nI (60 * oN)) (pk_mul _ _) ?_
                                refine r_iload rfl 187 rfl d_Mod_shift_185 ?_
                                refine r_iadd 188 rfl d_Mod_shift_187 ?_
                                refine r_topi (nI ((60 * oN) + jN)) (nI_add _ _) ?_
                                refine r_iload rfl 190 rfl d_Mod_shift_188 ?_
                                refine r_iadd 191 rfl d_Mod_shift_190 ?_
                                refine r_topi (nI (((60 * oN) + jN) + k)) (nI_add _ _) ?_
                                refine r_aload_n rfl 192 rfl d_Mod_shift_191 ?_
                                refine r_getf (v := .ref (a 45)) gf_Mod_103 0 rfl rfl 195 rfl d_Mod_shift_192 ?_
                                refine r_bipush (nI 60) rfl 197 rfl d_Mod_shift_195 ?_
                                refine r_iload_n rfl 198 rfl d_Mod_shift_197 ?_
                                refine r_imul 199 rfl d_Mod_shift_198 ?_
                                refine r_topi (nI (60 * tN)) (pk_mul _ _) ?_
                                refine r_iload_n rfl 200 rfl d_Mod_shift_199 ?_
                                refine r_iadd 201 rfl d_Mod_shift_200 ?_
                                refine r_topi (nI ((60 * tN) + iN)) (nI_add _ _) ?_
                                refine r_iload rfl 203 rfl d_Mod_shift_201 ?_
                                refine r_iadd 204 rfl d_Mod_shift_203 ?_
                                refine r_topi (nI (((60 * tN) + iN) + k)) (nI_add _ _) ?_
                                refine r_lald 31 rfl (((60 * tN) + iN) + k) rfl (by omega) (by omega) 205 rfl d_Mod_shift_204 ?_
                                refine r_last (w2 := MW X a ν σ (vp_updL (va_cpy τ τ ((60 * tN + iN)) ((60 * oN + jN)) (k)) (((60 * oN) + jN) + k) (va_cpy τ τ ((60 * tN + iN)) ((60 * oN + jN)) (k) (((60 * tN) + iN) + k)))) 31 rfl (((60 * oN) + jN) + k) rfl (by omega) (by omega) rfl 206 rfl d_Mod_shift_205 ?_
                                refine r_iinc (ls2 := [some (.ref (a 0)), some (.int (nI tN)), some (.int (nI iN)), some (.int (nI oN)), some (.int (nI jN)), some (.int (nI nN)), some (.int (nI (k + 1)))]) (nI (k + 1)) rfl (nI_1 _) 209 rfl d_Mod_shift_206 (by decide) rfl rfl ?_
                                refine r_goto 170 rfl d_Mod_shift_209 ?_
                                refine Runs.cast (ih4 (k + 1) (by omega) (by omega)) (rfl) rfl (by rw [show 60 * oN + jN + k = (60 * oN + jN) + k from rfl, cpyL_f (hdis k (by omega))]; try rfl)
                          refine Runs.cast (L170_3 _ 0 (Nat.zero_le _) (Nat.lt_succ_self _)) (rfl) rfl (by rw [cpyL_0])
                        · have n115 := Nat.not_le.mpr h115
                          have hdis2 : 60 * tN + iN ≤ 60 * oN + jN ∨ 60 * oN + jN + nN ≤ 60 * tN + iN := by omega
                          refine r_iload rfl 120 rfl d_Mod_shift_118 ?_
                          refine r_iconst (nI 1) rfl 121 rfl d_Mod_shift_120 ?_
                          refine r_isub 122 rfl d_Mod_shift_121 ?_
                          refine r_istore (ls2 := [some (.ref (a 0)), some (.int (nI tN)), some (.int (nI iN)), some (.int (nI oN)), some (.int (nI jN)), some (.int (nI nN)), some (.int ((nI nN) - (nI 1)))]) 124 rfl d_Mod_shift_122 (by decide) rfl rfl ?_
                          have L124_5 : ∀ (f : Nat) (q : Nat), (q ≤ nN) → q < f → Runs X 4 M_Mod_shift 0 0 Q 124 [some (.ref (a 0)), some (.int (nI tN)), some (.int (nI iN)), some (.int (nI oN)), some (.int (nI jN)), some (.int (nI nN)), some (.int (nI q - nI 1))] [] 0 0 (MW X a ν σ (va_cpy τ τ ((60 * tN + iN) + q) ((60 * oN + jN) + q) (nN - q))) := by
                            intro f
                            induction f with
                            | zero => intro q hq hmu; exact absurd hmu (Nat.not_lt_zero _)
                            | succ f ih6 =>
                              intro q hq hmu
                              refine r_iload rfl 126 rfl d_Mod_shift_124 ?_
                              refine r_if_lt 129 164 rfl rfl d_Mod_shift_126 (fun h126 => ?_) (fun h126 => ?_)
                              · refine r_goto 212 rfl d_Mod_shift_164 ?_
                                refine r_iload rfl 214 rfl d_Mod_shift_212 ?_
                                exact r_iret rfl (Nat.zero_le _) (Nat.zero_le _) d_Mod_shift_214 (by rw [← hQ]; exact ⟨by unfold R_shift; rw [if_pos ⟨h4, h11⟩, etN, eoN, if_neg hsn, if_pos h49, if_pos hgood], by rw [if_pos hgood, etN, eoN, cn_nI (by omega), cn_nI (by omega), cn_nI (by omega), show q = 0 from (neg1 q (by omega)).mp h126, Nat.add_zero, Nat.add_zero, Nat.sub_zero]⟩)
                              · obtain ⟨m, rfl⟩ : ∃ m, q = m + 1 := ⟨q - 1, by have : ¬ q = 0 := fun z => h126 ((neg1 q (by omega)).mpr z); omega⟩
                                refine Runs.cast (ls' := [some (.ref (a 0)), some (.int (nI tN)), some (.int (nI iN)), some (.int (nI oN)), some (.int (nI jN)), some (.int (nI nN)), some (.int (nI m))]) ?_ (by rw [sub1]) rfl rfl
                                refine r_aload_n rfl 130 rfl d_Mod_shift_129 ?_
                                refine r_getf (v := .ref (a 45)) gf_Mod_103 0 rfl rfl 133 rfl d_Mod_shift_130 ?_
                                refine r_bipush (nI 60) rfl 135 rfl d_Mod_shift_133 ?_
                                refine r_iload_n rfl 136 rfl d_Mod_shift_135 ?_
                                refine r_imul 137 rfl d_Mod_shift_136 ?_
                                refine r_topi (nI (60 * oN)) (pk_mul _ _) ?_
                                refine r_iload rfl 139 rfl d_Mod_shift_137 ?_
                                refine r_iadd 140 rfl d_Mod_shift_139 ?_
                                refine r_topi (nI ((60 * oN) + jN)) (nI_add _ _) ?_
                                refine r_iload rfl 142 rfl d_Mod_shift_140 ?_
                                refine r_iadd 143 rfl d_Mod_shift_142 ?_
                                refine r_topi (nI (((60 * oN) + jN) + m)) (nI_add _ _) ?_
                                refine r_aload_n rfl 144 rfl d_Mod_shift_143 ?_
                                refine r_getf (v := .ref (a 45)) gf_Mod_103 0 rfl rfl 147 rfl d_Mod_shift_144 ?_
                                refine r_bipush (nI 60) rfl 149 rfl d_Mod_shift_147 ?_
                                refine r_iload_n rfl 150 rfl d_Mod_shift_149 ?_
                                refine r_imul 151 rfl d_Mod_shift_150 ?_
                                refine r_topi (nI (60 * tN)) (pk_mul _ _) ?_
                                refine r_iload_n rfl 152 rfl d_Mod_shift_151 ?_
                                refine r_iadd 153 rfl d_Mod_shift_152 ?_
                                refine r_topi (nI ((60 * tN) + iN)) (nI_add _ _) ?_
                                refine r_iload rfl 155 rfl d_Mod_shift_153 ?_
                                refine r_iadd 156 rfl d_Mod_shift_155 ?_
                                refine r_topi (nI (((60 * tN) + iN) + m)) (nI_add _ _) ?_
                                refine r_lald 31 rfl (((60 * tN) + iN) + m) rfl (by omega) (by omega) 157 rfl d_Mod_shift_156 ?_
                                refine r_last (w2 := MW X a ν σ (vp_updL (va_cpy τ τ ((60 * tN + iN) + (m + 1)) ((60 * oN + jN) + (m + 1)) (nN - (m + 1))) (((60 * oN) + jN) + m) (va_cpy τ τ ((60 * tN + iN) + (m + 1)) ((60 * oN + jN) + (m + 1)) (nN - (m + 1)) (((60 * tN) + iN) + m)))) 31 rfl (((60 * oN) + jN) + m) rfl (by omega) (by omega) rfl 158 rfl d_Mod_shift_157 ?_
                                refine r_iinc (ls2 := [some (.ref (a 0)), some (.int (nI tN)), some (.int (nI iN)), some (.int (nI oN)), some (.int (nI jN)), some (.int (nI nN)), some (.int ((nI m) + Int32.ofInt (-1)))]) ((nI m) + Int32.ofInt (-1)) rfl (rfl) 161 rfl d_Mod_shift_158 (by decide) rfl rfl ?_
                                refine r_goto 124 rfl d_Mod_shift_161 ?_
                                refine Runs.cast (ih6 m (by omega) (by omega)) (by rw [dec1]; try rfl) rfl (by rw [cpyL_b (by omega) hdis2]; try rfl)
                          refine Runs.cast (L124_5 _ nN (Nat.le_refl _) (Nat.lt_succ_self _)) (rfl) rfl (by rw [Nat.sub_self, cpyL_0])
                    · have n101 := Nat.not_le.mpr h101
                      have hbad : ¬ b_shift (σ 43) (σ 44) (nI tN) (nI iN) (nI oN) (nI jN) (nI nN) = true := fun z => by simp only [b_shift, Bool.and_eq_true, decide_eq_true_eq, etN, eoN] at z; have z2 := z.2.2.2.2.2; rw [ey, cn_nI (by omega), cn_nI (by omega), cn_nI (by omega)] at z2; omega
                      refine r_bipush ((-13)) rfl 106 rfl d_Mod_shift_104 ?_
                      exact r_iret rfl (Nat.zero_le _) (Nat.zero_le _) d_Mod_shift_106 (by rw [← hQ]; exact ⟨by unfold R_shift; rw [if_pos ⟨h4, h11⟩, etN, eoN, if_neg hsn, if_pos h49, if_neg (fun z => hbad z)], by rw [if_neg hbad]⟩)
          · refine r_bipush ((-12)) rfl 54 rfl d_Mod_shift_52 ?_
            exact r_iret rfl (Nat.zero_le _) (Nat.zero_le _) d_Mod_shift_54 (by rw [← hQ]; exact ⟨by unfold R_shift; rw [if_pos ⟨h4, h11⟩, etN, eoN, if_neg hsn, if_neg h49], by rw [if_neg (fun z => by simp only [b_shift, Bool.and_eq_true, decide_eq_true_eq, etN, eoN] at z; exact h49 z.2.2.1)]⟩)
        · have hsn : σ 43 tN < 0 ∨ σ 43 oN < 0 := Or.inr (Int32.not_le.mp h31)
          refine r_bipush ((-11)) rfl 36 rfl d_Mod_shift_34 ?_
          exact r_iret rfl (Nat.zero_le _) (Nat.zero_le _) d_Mod_shift_36 (by rw [← hQ]; exact ⟨by unfold R_shift; rw [if_pos ⟨h4, h11⟩, etN, eoN, if_pos hsn], by rw [if_neg (fun z => by simp only [b_shift, Bool.and_eq_true, decide_eq_true_eq, etN, eoN] at z; exact hsn.elim (fun y => absurd z.2.1.1 (Int32.not_le.mpr y)) (fun y => absurd z.2.1.2 (Int32.not_le.mpr y)))]⟩)
    · refine r_iconst ((-1)) rfl 15 rfl d_Mod_shift_14 ?_
      exact r_iret rfl (Nat.zero_le _) (Nat.zero_le _) d_Mod_shift_15 (by rw [← hQ]; exact ⟨by unfold R_shift; rw [if_neg (fun z => absurd z.2 (by rw [h11]; decide))], by rw [if_neg (fun z => by simp only [b_shift, Bool.and_eq_true] at z; exact absurd z.1.2 (by rw [h11]; decide))]⟩)
