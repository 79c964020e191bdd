def M_Mod_above : XM := (⟨"HandshakeBindsModel", "above", "(I)I"⟩, prog_11_method_68_code, 1, (some .int))
theorem d_Mod_above_0 : decode M_Mod_above.2.1 0 = .ok (.iload_n 0, 1) := by decide +kernel
theorem d_Mod_above_1 : decode M_Mod_above.2.1 1 = .ok (.iconst 4, 1) := by decide +kernel
theorem d_Mod_above_2 : decode M_Mod_above.2.1 2 = .ok (.if_icmp .ne 7, 3) := by decide +kernel
theorem d_Mod_above_9 : decode M_Mod_above.2.1 9 = .ok (.iload_n 0, 1) := by decide +kernel
theorem d_Mod_above_10 : decode M_Mod_above.2.1 10 = .ok (.iconst 5, 1) := by decide +kernel
theorem d_Mod_above_11 : decode M_Mod_above.2.1 11 = .ok (.if_icmp .ne 7, 3) := by decide +kernel
theorem d_Mod_above_18 : decode M_Mod_above.2.1 18 = .ok (.iload_n 0, 1) := by decide +kernel
theorem d_Mod_above_19 : decode M_Mod_above.2.1 19 = .ok (.bipush 6, 2) := by decide +kernel
theorem d_Mod_above_21 : decode M_Mod_above.2.1 21 = .ok (.if_icmp .ne 7, 3) := by decide +kernel
theorem d_Mod_above_28 : decode M_Mod_above.2.1 28 = .ok (.iconst 0, 1) := by decide +kernel
theorem d_Mod_above_29 : decode M_Mod_above.2.1 29 = .ok (.ireturn, 1) := by decide +kernel
theorem d_Mod_above_24 : decode M_Mod_above.2.1 24 = .ok (.iconst 3, 1) := by decide +kernel
theorem d_Mod_above_25 : decode M_Mod_above.2.1 25 = .ok (.goto 4, 3) := by decide +kernel
theorem d_Mod_above_14 : decode M_Mod_above.2.1 14 = .ok (.iconst 2, 1) := by decide +kernel
theorem d_Mod_above_15 : decode M_Mod_above.2.1 15 = .ok (.goto 14, 3) := by decide +kernel
theorem d_Mod_above_5 : decode M_Mod_above.2.1 5 = .ok (.iconst 1, 1) := by decide +kernel
theorem d_Mod_above_6 : decode M_Mod_above.2.1 6 = .ok (.goto 23, 3) := by decide +kernel
def M_Mod_ran : XM := (⟨"HandshakeBindsModel", "ran", "(I)V"⟩, prog_11_method_67_code, 2, none)
theorem d_Mod_ran_0 : decode M_Mod_ran.2.1 0 = .ok (.aload_n 0, 1) := by decide +kernel
theorem d_Mod_ran_1 : decode M_Mod_ran.2.1 1 = .ok (.getfield 326, 3) := by decide +kernel
theorem gf_Mod_326 : GF "HandshakeBindsModel" 326 9 36 := ⟨_, _, _, rfl, by decide, i_Mod, inTB 886 (by decide +kernel) rfl⟩
theorem d_Mod_ran_4 : decode M_Mod_ran.2.1 4 = .ok (.bipush 20, 2) := by decide +kernel
theorem d_Mod_ran_6 : decode M_Mod_ran.2.1 6 = .ok (.if_icmp .ge 13, 3) := by decide +kernel
theorem d_Mod_ran_19 : decode M_Mod_ran.2.1 19 = .ok (.aload_n 0, 1) := by decide +kernel
theorem d_Mod_ran_20 : decode M_Mod_ran.2.1 20 = .ok (.dup, 1) := by decide +kernel
theorem d_Mod_ran_21 : decode M_Mod_ran.2.1 21 = .ok (.getfield 326, 3) := by decide +kernel
theorem d_Mod_ran_24 : decode M_Mod_ran.2.1 24 = .ok (.iconst 1, 1) := by decide +kernel
theorem d_Mod_ran_25 : decode M_Mod_ran.2.1 25 = .ok (.iadd, 1) := by decide +kernel
theorem d_Mod_ran_26 : decode M_Mod_ran.2.1 26 = .ok (.putfield 326, 3) := by decide +kernel
theorem pf_Mod_326 : PF "HandshakeBindsModel" 326 9 36 (.int) false := ⟨_, _, _, t_Mod, rfl, by decide, i_Mod, t_Mod_ok, n_Mod, inTB 886 (by decide +kernel) rfl, rfl, t_Mod_ok 36 (by decide), fun _ => rfl⟩
theorem d_Mod_ran_29 : decode M_Mod_ran.2.1 29 = .ok (.return_, 1) := by decide +kernel
theorem d_Mod_ran_9 : decode M_Mod_ran.2.1 9 = .ok (.aload_n 0, 1) := by decide +kernel
theorem d_Mod_ran_10 : decode M_Mod_ran.2.1 10 = .ok (.getfield 82, 3) := by decide +kernel
theorem gf_Mod_82 : GF "HandshakeBindsModel" 82 9 37 := ⟨_, _, _, rfl, by decide, i_Mod, inTB 887 (by decide +kernel) rfl⟩
theorem d_Mod_ran_13 : decode M_Mod_ran.2.1 13 = .ok (.aload_n 0, 1) := by decide +kernel
theorem d_Mod_ran_14 : decode M_Mod_ran.2.1 14 = .ok (.getfield 326, 3) := by decide +kernel
theorem d_Mod_ran_17 : decode M_Mod_ran.2.1 17 = .ok (.iload_n 1, 1) := by decide +kernel
theorem d_Mod_ran_18 : decode M_Mod_ran.2.1 18 = .ok (.iastore, 1) := by decide +kernel
def M_Mod_grips : XM := (⟨"HandshakeBindsModel", "grips", "(III)I"⟩, prog_11_method_69_code, 4, (some .int))
theorem d_Mod_grips_0 : decode M_Mod_grips.2.1 0 = .ok (.iload_n 2, 1) := by decide +kernel
theorem d_Mod_grips_1 : decode M_Mod_grips.2.1 1 = .ok (.tableswitch 105 0 6 #[95, 105, 43, 105, 59, 105, 74], 43) := by decide +kernel
theorem d_Mod_grips_96 : decode M_Mod_grips.2.1 96 = .ok (.aload_n 0, 1) := by decide +kernel
theorem d_Mod_grips_97 : decode M_Mod_grips.2.1 97 = .ok (.bipush 10, 2) := by decide +kernel
theorem d_Mod_grips_99 : decode M_Mod_grips.2.1 99 = .ok (.invokevirtual 329, 3) := by decide +kernel
theorem ln_Mod_329 : Cond.methodLink "HandshakeBindsModel" 329 M_Mod_ran.1 ∈ TB := inTB 1329 (by decide +kernel) rfl
theorem lk_Mod_ran : LVt M_Mod_ran 1 := ⟨⟨inTB 72 (by decide +kernel) rfl, inTB 1332 (by decide +kernel) rfl, ⟨by decide, by decide, by decide +kernel⟩, by decide⟩, inTB 1331 (by decide +kernel) rfl, inTB 58 (by decide +kernel) rfl⟩
theorem d_Mod_grips_102 : decode M_Mod_grips.2.1 102 = .ok (.iload_n 3, 1) := by decide +kernel
theorem d_Mod_grips_103 : decode M_Mod_grips.2.1 103 = .ok (.iload_n 1, 1) := by decide +kernel
theorem d_Mod_grips_104 : decode M_Mod_grips.2.1 104 = .ok (.iadd, 1) := by decide +kernel
theorem d_Mod_grips_105 : decode M_Mod_grips.2.1 105 = .ok (.ireturn, 1) := by decide +kernel
theorem d_Mod_grips_106 : decode M_Mod_grips.2.1 106 = .ok (.aload_n 0, 1) := by decide +kernel
theorem d_Mod_grips_107 : decode M_Mod_grips.2.1 107 = .ok (.iload_n 1, 1) := by decide +kernel
theorem d_Mod_grips_108 : decode M_Mod_grips.2.1 108 = .ok (.iload_n 2, 1) := by decide +kernel
theorem d_Mod_grips_109 : decode M_Mod_grips.2.1 109 = .ok (.invokestatic 336, 3) := by decide +kernel
theorem ln_Mod_336 : Cond.methodLink "HandshakeBindsModel" 336 M_Mod_above.1 ∈ TB := inTB 1333 (by decide +kernel) rfl
theorem lk_Mod_above : LSt M_Mod_above 1 := ⟨⟨inTB 72 (by decide +kernel) rfl, inTB 1335 (by decide +kernel) rfl, ⟨by decide, by decide, by decide +kernel⟩, by decide⟩, inTB 1334 (by decide +kernel) rfl⟩
theorem d_Mod_grips_112 : decode M_Mod_grips.2.1 112 = .ok (.iload_n 3, 1) := by decide +kernel
theorem d_Mod_grips_113 : decode M_Mod_grips.2.1 113 = .ok (.invokevirtual 332, 3) := by decide +kernel
theorem ln_Mod_332 : Cond.methodLink "HandshakeBindsModel" 332 M_Mod_grips.1 ∈ TB := inTB 1325 (by decide +kernel) rfl
theorem lk_Mod_grips : LVt M_Mod_grips 3 := ⟨⟨inTB 72 (by decide +kernel) rfl, inTB 1328 (by decide +kernel) rfl, ⟨by decide, by decide, by decide +kernel⟩, by decide⟩, inTB 1327 (by decide +kernel) rfl, inTB 57 (by decide +kernel) rfl⟩
theorem d_Mod_grips_116 : decode M_Mod_grips.2.1 116 = .ok (.ireturn, 1) := by decide +kernel
theorem d_Mod_grips_44 : decode M_Mod_grips.2.1 44 = .ok (.aload_n 0, 1) := by decide +kernel
theorem d_Mod_grips_45 : decode M_Mod_grips.2.1 45 = .ok (.bipush 30, 2) := by decide +kernel
theorem d_Mod_grips_47 : decode M_Mod_grips.2.1 47 = .ok (.invokevirtual 329, 3) := by decide +kernel
theorem d_Mod_grips_50 : decode M_Mod_grips.2.1 50 = .ok (.aload_n 0, 1) := by decide +kernel
theorem d_Mod_grips_51 : decode M_Mod_grips.2.1 51 = .ok (.iload_n 1, 1) := by decide +kernel
theorem d_Mod_grips_52 : decode M_Mod_grips.2.1 52 = .ok (.iconst 0, 1) := by decide +kernel
theorem d_Mod_grips_53 : decode M_Mod_grips.2.1 53 = .ok (.iload_n 3, 1) := by decide +kernel
theorem d_Mod_grips_54 : decode M_Mod_grips.2.1 54 = .ok (.iconst 3, 1) := by decide +kernel
theorem d_Mod_grips_55 : decode M_Mod_grips.2.1 55 = .ok (.imul, 1) := by decide +kernel
theorem d_Mod_grips_56 : decode M_Mod_grips.2.1 56 = .ok (.invokevirtual 332, 3) := by decide +kernel
theorem d_Mod_grips_59 : decode M_Mod_grips.2.1 59 = .ok (.ireturn, 1) := by decide +kernel
theorem d_Mod_grips_60 : decode M_Mod_grips.2.1 60 = .ok (.aload_n 0, 1) := by decide +kernel
theorem d_Mod_grips_61 : decode M_Mod_grips.2.1 61 = .ok (.bipush 50, 2) := by decide +kernel
theorem d_Mod_grips_63 : decode M_Mod_grips.2.1 63 = .ok (.invokevirtual 329, 3) := by decide +kernel
theorem d_Mod_grips_66 : decode M_Mod_grips.2.1 66 = .ok (.aload_n 0, 1) := by decide +kernel
theorem d_Mod_grips_67 : decode M_Mod_grips.2.1 67 = .ok (.iload_n 1, 1) := by decide +kernel
theorem d_Mod_grips_68 : decode M_Mod_grips.2.1 68 = .ok (.iconst 1, 1) := by decide +kernel
theorem d_Mod_grips_69 : decode M_Mod_grips.2.1 69 = .ok (.iload_n 3, 1) := by decide +kernel
theorem d_Mod_grips_70 : decode M_Mod_grips.2.1 70 = .ok (.invokevirtual 332, 3) := by decide +kernel
theorem d_Mod_grips_73 : decode M_Mod_grips.2.1 73 = .ok (.ineg, 1) := by decide +kernel
theorem d_Mod_grips_74 : decode M_Mod_grips.2.1 74 = .ok (.ireturn, 1) := by decide +kernel
theorem d_Mod_grips_75 : decode M_Mod_grips.2.1 75 = .ok (.aload_n 0, 1) := by decide +kernel
theorem d_Mod_grips_76 : decode M_Mod_grips.2.1 76 = .ok (.bipush 71, 2) := by decide +kernel
theorem d_Mod_grips_78 : decode M_Mod_grips.2.1 78 = .ok (.invokevirtual 329, 3) := by decide +kernel
theorem d_Mod_grips_81 : decode M_Mod_grips.2.1 81 = .ok (.aload_n 0, 1) := by decide +kernel
theorem d_Mod_grips_82 : decode M_Mod_grips.2.1 82 = .ok (.iload_n 1, 1) := by decide +kernel
theorem d_Mod_grips_83 : decode M_Mod_grips.2.1 83 = .ok (.iconst 3, 1) := by decide +kernel
theorem d_Mod_grips_84 : decode M_Mod_grips.2.1 84 = .ok (.iload_n 3, 1) := by decide +kernel
theorem d_Mod_grips_85 : decode M_Mod_grips.2.1 85 = .ok (.invokevirtual 332, 3) := by decide +kernel
theorem d_Mod_grips_88 : decode M_Mod_grips.2.1 88 = .ok (.aload_n 0, 1) := by decide +kernel
theorem d_Mod_grips_89 : decode M_Mod_grips.2.1 89 = .ok (.getfield 15, 3) := by decide +kernel
theorem d_Mod_grips_92 : decode M_Mod_grips.2.1 92 = .ok (.iload_n 1, 1) := by decide +kernel
theorem d_Mod_grips_93 : decode M_Mod_grips.2.1 93 = .ok (.iaload, 1) := by decide +kernel
theorem d_Mod_grips_94 : decode M_Mod_grips.2.1 94 = .ok (.ixor, 1) := by decide +kernel
theorem d_Mod_grips_95 : decode M_Mod_grips.2.1 95 = .ok (.ireturn, 1) := by decide +kernel
def M_Mod_lets : XM := (⟨"HandshakeBindsModel", "lets", "(III)I"⟩, prog_11_method_70_code, 5, (some .int))
theorem d_Mod_lets_0 : decode M_Mod_lets.2.1 0 = .ok (.iload_n 2, 1) := by decide +kernel
theorem d_Mod_lets_1 : decode M_Mod_lets.2.1 1 = .ok (.tableswitch 128 0 6 #[102, 43, 128, 128, 60, 128, 76], 43) := by decide +kernel
theorem d_Mod_lets_103 : decode M_Mod_lets.2.1 103 = .ok (.aload_n 0, 1) := by decide +kernel
theorem d_Mod_lets_104 : decode M_Mod_lets.2.1 104 = .ok (.bipush 11, 2) := by decide +kernel
theorem d_Mod_lets_106 : decode M_Mod_lets.2.1 106 = .ok (.invokevirtual 329, 3) := by decide +kernel
theorem d_Mod_lets_109 : decode M_Mod_lets.2.1 109 = .ok (.aload_n 0, 1) := by decide +kernel
theorem d_Mod_lets_110 : decode M_Mod_lets.2.1 110 = .ok (.iload_n 1, 1) := by decide +kernel
theorem d_Mod_lets_111 : decode M_Mod_lets.2.1 111 = .ok (.aload_n 0, 1) := by decide +kernel
theorem d_Mod_lets_112 : decode M_Mod_lets.2.1 112 = .ok (.getfield 9, 3) := by decide +kernel
theorem d_Mod_lets_115 : decode M_Mod_lets.2.1 115 = .ok (.iload_n 1, 1) := by decide +kernel
theorem d_Mod_lets_116 : decode M_Mod_lets.2.1 116 = .ok (.iaload, 1) := by decide +kernel
theorem d_Mod_lets_117 : decode M_Mod_lets.2.1 117 = .ok (.iload_n 3, 1) := by decide +kernel
theorem d_Mod_lets_118 : decode M_Mod_lets.2.1 118 = .ok (.invokevirtual 332, 3) := by decide +kernel
theorem d_Mod_lets_121 : decode M_Mod_lets.2.1 121 = .ok (.aload_n 0, 1) := by decide +kernel
theorem d_Mod_lets_122 : decode M_Mod_lets.2.1 122 = .ok (.getfield 15, 3) := by decide +kernel
theorem d_Mod_lets_125 : decode M_Mod_lets.2.1 125 = .ok (.iload_n 1, 1) := by decide +kernel
theorem d_Mod_lets_126 : decode M_Mod_lets.2.1 126 = .ok (.iaload, 1) := by decide +kernel
theorem d_Mod_lets_127 : decode M_Mod_lets.2.1 127 = .ok (.isub, 1) := by decide +kernel
theorem d_Mod_lets_128 : decode M_Mod_lets.2.1 128 = .ok (.ireturn, 1) := by decide +kernel
theorem d_Mod_lets_44 : decode M_Mod_lets.2.1 44 = .ok (.aload_n 0, 1) := by decide +kernel
theorem d_Mod_lets_45 : decode M_Mod_lets.2.1 45 = .ok (.bipush 20, 2) := by decide +kernel
theorem d_Mod_lets_47 : decode M_Mod_lets.2.1 47 = .ok (.invokevirtual 329, 3) := by decide +kernel
theorem d_Mod_lets_50 : decode M_Mod_lets.2.1 50 = .ok (.aload_n 0, 1) := by decide +kernel
theorem d_Mod_lets_51 : decode M_Mod_lets.2.1 51 = .ok (.iload_n 1, 1) := by decide +kernel
theorem d_Mod_lets_52 : decode M_Mod_lets.2.1 52 = .ok (.iconst 0, 1) := by decide +kernel
theorem d_Mod_lets_53 : decode M_Mod_lets.2.1 53 = .ok (.iload_n 3, 1) := by decide +kernel
theorem d_Mod_lets_54 : decode M_Mod_lets.2.1 54 = .ok (.invokevirtual 339, 3) := by decide +kernel
theorem ln_Mod_339 : Cond.methodLink "HandshakeBindsModel" 339 M_Mod_lets.1 ∈ TB := inTB 1336 (by decide +kernel) rfl
theorem lk_Mod_lets : LVt M_Mod_lets 3 := ⟨⟨inTB 72 (by decide +kernel) rfl, inTB 1339 (by decide +kernel) rfl, ⟨by decide, by decide, by decide +kernel⟩, by decide⟩, inTB 1338 (by decide +kernel) rfl, inTB 59 (by decide +kernel) rfl⟩
theorem d_Mod_lets_57 : decode M_Mod_lets.2.1 57 = .ok (.bipush 6, 2) := by decide +kernel
theorem d_Mod_lets_59 : decode M_Mod_lets.2.1 59 = .ok (.ixor, 1) := by decide +kernel
theorem d_Mod_lets_60 : decode M_Mod_lets.2.1 60 = .ok (.ireturn, 1) := by decide +kernel
theorem d_Mod_lets_129 : decode M_Mod_lets.2.1 129 = .ok (.aload_n 0, 1) := by decide +kernel
theorem d_Mod_lets_130 : decode M_Mod_lets.2.1 130 = .ok (.iload_n 1, 1) := by decide +kernel
theorem d_Mod_lets_131 : decode M_Mod_lets.2.1 131 = .ok (.iload_n 2, 1) := by decide +kernel
theorem d_Mod_lets_132 : decode M_Mod_lets.2.1 132 = .ok (.invokestatic 336, 3) := by decide +kernel
theorem d_Mod_lets_135 : decode M_Mod_lets.2.1 135 = .ok (.iload_n 3, 1) := by decide +kernel
theorem d_Mod_lets_136 : decode M_Mod_lets.2.1 136 = .ok (.invokevirtual 339, 3) := by decide +kernel
theorem d_Mod_lets_139 : decode M_Mod_lets.2.1 139 = .ok (.ireturn, 1) := by decide +kernel
theorem d_Mod_lets_61 : decode M_Mod_lets.2.1 61 = .ok (.aload_n 0, 1) := by decide +kernel
theorem d_Mod_lets_62 : decode M_Mod_lets.2.1 62 = .ok (.bipush 51, 2) := by decide +kernel
theorem d_Mod_lets_64 : decode M_Mod_lets.2.1 64 = .ok (.invokevirtual 329, 3) := by decide +kernel
theorem d_Mod_lets_67 : decode M_Mod_lets.2.1 67 = .ok (.aload_n 0, 1) := by decide +kernel
theorem d_Mod_lets_68 : decode M_Mod_lets.2.1 68 = .ok (.iload_n 1, 1) := by decide +kernel
theorem d_Mod_lets_69 : decode M_Mod_lets.2.1 69 = .ok (.iconst 1, 1) := by decide +kernel
theorem d_Mod_lets_70 : decode M_Mod_lets.2.1 70 = .ok (.iload_n 3, 1) := by decide +kernel
theorem d_Mod_lets_71 : decode M_Mod_lets.2.1 71 = .ok (.iconst 1, 1) := by decide +kernel
theorem d_Mod_lets_72 : decode M_Mod_lets.2.1 72 = .ok (.iadd, 1) := by decide +kernel
theorem d_Mod_lets_73 : decode M_Mod_lets.2.1 73 = .ok (.invokevirtual 339, 3) := by decide +kernel
theorem d_Mod_lets_76 : decode M_Mod_lets.2.1 76 = .ok (.ireturn, 1) := by decide +kernel
theorem d_Mod_lets_77 : decode M_Mod_lets.2.1 77 = .ok (.aload_n 0, 1) := by decide +kernel
theorem d_Mod_lets_78 : decode M_Mod_lets.2.1 78 = .ok (.bipush 70, 2) := by decide +kernel
theorem d_Mod_lets_80 : decode M_Mod_lets.2.1 80 = .ok (.invokevirtual 329, 3) := by decide +kernel
theorem d_Mod_lets_83 : decode M_Mod_lets.2.1 83 = .ok (.aload_n 0, 1) := by decide +kernel
theorem d_Mod_lets_84 : decode M_Mod_lets.2.1 84 = .ok (.iload_n 1, 1) := by decide +kernel
theorem d_Mod_lets_85 : decode M_Mod_lets.2.1 85 = .ok (.iconst 3, 1) := by decide +kernel
theorem d_Mod_lets_86 : decode M_Mod_lets.2.1 86 = .ok (.iload_n 3, 1) := by decide +kernel
theorem d_Mod_lets_87 : decode M_Mod_lets.2.1 87 = .ok (.invokevirtual 339, 3) := by decide +kernel
theorem d_Mod_lets_90 : decode M_Mod_lets.2.1 90 = .ok (.istore 4, 2) := by decide +kernel
theorem d_Mod_lets_92 : decode M_Mod_lets.2.1 92 = .ok (.iload 4, 2) := by decide +kernel
theorem d_Mod_lets_94 : decode M_Mod_lets.2.1 94 = .ok (.aload_n 0, 1) := by decide +kernel
theorem d_Mod_lets_95 : decode M_Mod_lets.2.1 95 = .ok (.iload_n 1, 1) := by decide +kernel
theorem d_Mod_lets_96 : decode M_Mod_lets.2.1 96 = .ok (.iconst 3, 1) := by decide +kernel
theorem d_Mod_lets_97 : decode M_Mod_lets.2.1 97 = .ok (.iconst 2, 1) := by decide +kernel
theorem d_Mod_lets_98 : decode M_Mod_lets.2.1 98 = .ok (.invokevirtual 332, 3) := by decide +kernel
theorem d_Mod_lets_101 : decode M_Mod_lets.2.1 101 = .ok (.iadd, 1) := by decide +kernel
theorem d_Mod_lets_102 : decode M_Mod_lets.2.1 102 = .ok (.ireturn, 1) := by decide +kernel
def M_Mod_tells : XM := (⟨"HandshakeBindsModel", "tells", "(III)I"⟩, prog_11_method_71_code, 5, (some .int))
theorem d_Mod_tells_0 : decode M_Mod_tells.2.1 0 = .ok (.iload_n 2, 1) := by decide +kernel
theorem d_Mod_tells_1 : decode M_Mod_tells.2.1 1 = .ok (.lookupswitch 103 #[(0, 82), (3, 35), (5, 66)], 35) := by decide +kernel
theorem d_Mod_tells_83 : decode M_Mod_tells.2.1 83 = .ok (.aload_n 0, 1) := by decide +kernel
theorem d_Mod_tells_84 : decode M_Mod_tells.2.1 84 = .ok (.bipush 12, 2) := by decide +kernel
theorem d_Mod_tells_86 : decode M_Mod_tells.2.1 86 = .ok (.invokevirtual 329, 3) := by decide +kernel
theorem d_Mod_tells_89 : decode M_Mod_tells.2.1 89 = .ok (.aload_n 0, 1) := by decide +kernel
theorem d_Mod_tells_90 : decode M_Mod_tells.2.1 90 = .ok (.iload_n 1, 1) := by decide +kernel
theorem d_Mod_tells_91 : decode M_Mod_tells.2.1 91 = .ok (.aload_n 0, 1) := by decide +kernel
theorem d_Mod_tells_92 : decode M_Mod_tells.2.1 92 = .ok (.getfield 9, 3) := by decide +kernel
theorem d_Mod_tells_95 : decode M_Mod_tells.2.1 95 = .ok (.iload_n 1, 1) := by decide +kernel
theorem d_Mod_tells_96 : decode M_Mod_tells.2.1 96 = .ok (.iaload, 1) := by decide +kernel
theorem d_Mod_tells_97 : decode M_Mod_tells.2.1 97 = .ok (.iload_n 3, 1) := by decide +kernel
theorem d_Mod_tells_98 : decode M_Mod_tells.2.1 98 = .ok (.invokevirtual 339, 3) := by decide +kernel
theorem d_Mod_tells_101 : decode M_Mod_tells.2.1 101 = .ok (.iconst 2, 1) := by decide +kernel
theorem d_Mod_tells_102 : decode M_Mod_tells.2.1 102 = .ok (.imul, 1) := by decide +kernel
theorem d_Mod_tells_103 : decode M_Mod_tells.2.1 103 = .ok (.ireturn, 1) := by decide +kernel
theorem d_Mod_tells_36 : decode M_Mod_tells.2.1 36 = .ok (.aload_n 0, 1) := by decide +kernel
theorem d_Mod_tells_37 : decode M_Mod_tells.2.1 37 = .ok (.bipush 40, 2) := by decide +kernel
theorem d_Mod_tells_39 : decode M_Mod_tells.2.1 39 = .ok (.invokevirtual 329, 3) := by decide +kernel
theorem d_Mod_tells_42 : decode M_Mod_tells.2.1 42 = .ok (.aload_n 0, 1) := by decide +kernel
theorem d_Mod_tells_43 : decode M_Mod_tells.2.1 43 = .ok (.iload_n 1, 1) := by decide +kernel
theorem d_Mod_tells_44 : decode M_Mod_tells.2.1 44 = .ok (.iconst 0, 1) := by decide +kernel
theorem d_Mod_tells_45 : decode M_Mod_tells.2.1 45 = .ok (.iload_n 3, 1) := by decide +kernel
theorem d_Mod_tells_46 : decode M_Mod_tells.2.1 46 = .ok (.invokevirtual 342, 3) := by decide +kernel
theorem ln_Mod_342 : Cond.methodLink "HandshakeBindsModel" 342 M_Mod_tells.1 ∈ TB := inTB 1340 (by decide +kernel) rfl
theorem lk_Mod_tells : LVt M_Mod_tells 3 := ⟨⟨inTB 72 (by decide +kernel) rfl, inTB 1343 (by decide +kernel) rfl, ⟨by decide, by decide, by decide +kernel⟩, by decide⟩, inTB 1342 (by decide +kernel) rfl, inTB 60 (by decide +kernel) rfl⟩
theorem d_Mod_tells_49 : decode M_Mod_tells.2.1 49 = .ok (.istore 4, 2) := by decide +kernel
theorem d_Mod_tells_51 : decode M_Mod_tells.2.1 51 = .ok (.iload 4, 2) := by decide +kernel
theorem d_Mod_tells_53 : decode M_Mod_tells.2.1 53 = .ok (.aload_n 0, 1) := by decide +kernel
theorem d_Mod_tells_54 : decode M_Mod_tells.2.1 54 = .ok (.iload_n 1, 1) := by decide +kernel
theorem d_Mod_tells_55 : decode M_Mod_tells.2.1 55 = .ok (.aload_n 0, 1) := by decide +kernel
theorem d_Mod_tells_56 : decode M_Mod_tells.2.1 56 = .ok (.getfield 9, 3) := by decide +kernel
theorem d_Mod_tells_59 : decode M_Mod_tells.2.1 59 = .ok (.iload_n 1, 1) := by decide +kernel
theorem d_Mod_tells_60 : decode M_Mod_tells.2.1 60 = .ok (.iaload, 1) := by decide +kernel
theorem d_Mod_tells_61 : decode M_Mod_tells.2.1 61 = .ok (.iconst 1, 1) := by decide +kernel
theorem d_Mod_tells_62 : decode M_Mod_tells.2.1 62 = .ok (.invokevirtual 339, 3) := by decide +kernel
theorem d_Mod_tells_65 : decode M_Mod_tells.2.1 65 = .ok (.iadd, 1) := by decide +kernel
theorem d_Mod_tells_66 : decode M_Mod_tells.2.1 66 = .ok (.ireturn, 1) := by decide +kernel
theorem d_Mod_tells_67 : decode M_Mod_tells.2.1 67 = .ok (.aload_n 0, 1) := by decide +kernel
theorem d_Mod_tells_68 : decode M_Mod_tells.2.1 68 = .ok (.bipush 60, 2) := by decide +kernel
theorem d_Mod_tells_70 : decode M_Mod_tells.2.1 70 = .ok (.invokevirtual 329, 3) := by decide +kernel
theorem d_Mod_tells_73 : decode M_Mod_tells.2.1 73 = .ok (.aload_n 0, 1) := by decide +kernel
theorem d_Mod_tells_74 : decode M_Mod_tells.2.1 74 = .ok (.iload_n 1, 1) := by decide +kernel
theorem d_Mod_tells_75 : decode M_Mod_tells.2.1 75 = .ok (.iconst 2, 1) := by decide +kernel
theorem d_Mod_tells_76 : decode M_Mod_tells.2.1 76 = .ok (.iload_n 3, 1) := by decide +kernel
theorem d_Mod_tells_77 : decode M_Mod_tells.2.1 77 = .ok (.iload_n 1, 1) := by decide +kernel
theorem d_Mod_tells_78 : decode M_Mod_tells.2.1 78 = .ok (.isub, 1) := by decide +kernel
theorem d_Mod_tells_79 : decode M_Mod_tells.2.1 79 = .ok (.invokevirtual 342, 3) := by decide +kernel
theorem d_Mod_tells_82 : decode M_Mod_tells.2.1 82 = .ok (.ireturn, 1) := by decide +kernel
theorem d_Mod_tells_104 : decode M_Mod_tells.2.1 104 = .ok (.aload_n 0, 1) := by decide +kernel
theorem d_Mod_tells_105 : decode M_Mod_tells.2.1 105 = .ok (.iload_n 1, 1) := by decide +kernel
theorem d_Mod_tells_106 : decode M_Mod_tells.2.1 106 = .ok (.iload_n 2, 1) := by decide +kernel
theorem d_Mod_tells_107 : decode M_Mod_tells.2.1 107 = .ok (.invokestatic 336, 3) := by decide +kernel
theorem d_Mod_tells_110 : decode M_Mod_tells.2.1 110 = .ok (.iload_n 3, 1) := by decide +kernel
theorem d_Mod_tells_111 : decode M_Mod_tells.2.1 111 = .ok (.invokevirtual 342, 3) := by decide +kernel
theorem d_Mod_tells_114 : decode M_Mod_tells.2.1 114 = .ok (.ireturn, 1) := by decide +kernel
theorem c_Mod_above (X : Xn) (k : Nat) (hk : k ≤ 6) : Does X 1 M_Mod_above [.int (nI k)] ([]) 0 0 (fun (vv : Option Value) (ww : va_W) => vv = some (.int (nI (abv k))) ∧ ww = []) := by
  generalize hQ : (fun (vv : Option Value) (ww : va_W) => vv = some (.int (nI (abv k))) ∧ ww = []) = Q
  refine Does.go rfl (Nat.le_of_ble_eq_true rfl) [some (.int (nI k))] 0 rfl ?_
  refine r_iload_n rfl 1 rfl d_Mod_above_0 ?_
  refine r_iconst (nI 4) rfl 2 rfl d_Mod_above_1 ?_
  refine r_icmp_neN k 4 (by omega) (by omega) 5 9 rfl rfl d_Mod_above_2 (fun h2 => ?_) (fun h2 => ?_)
  · refine r_iload_n rfl 10 rfl d_Mod_above_9 ?_
    refine r_iconst (nI 5) rfl 11 rfl d_Mod_above_10 ?_
    refine r_icmp_neN k 5 (by omega) (by omega) 14 18 rfl rfl d_Mod_above_11 (fun h11 => ?_) (fun h11 => ?_)
    · refine r_iload_n rfl 19 rfl d_Mod_above_18 ?_
      refine r_bipush (nI 6) rfl 21 rfl d_Mod_above_19 ?_
      refine r_icmp_neN k 6 (by omega) (by omega) 24 28 rfl rfl d_Mod_above_21 (fun h21 => ?_) (fun h21 => ?_)
      · refine r_iconst (nI 0) rfl 29 rfl d_Mod_above_28 ?_
        exact r_iret rfl (Nat.zero_le _) (Nat.zero_le _) d_Mod_above_29 (by rw [← hQ]; exact ⟨by simp [abv, h2, h11, h21], rfl⟩)
      · refine r_iconst (nI 3) rfl 25 rfl d_Mod_above_24 ?_
        refine r_goto 29 rfl d_Mod_above_25 ?_
        exact r_iret rfl (Nat.zero_le _) (Nat.zero_le _) d_Mod_above_29 (by rw [← hQ]; exact ⟨by simp [abv, h2, h11, h21], rfl⟩)
    · refine r_iconst (nI 2) rfl 15 rfl d_Mod_above_14 ?_
      refine r_goto 29 rfl d_Mod_above_15 ?_
      exact r_iret rfl (Nat.zero_le _) (Nat.zero_le _) d_Mod_above_29 (by rw [← hQ]; exact ⟨by simp [abv, h2, h11], rfl⟩)
  · refine r_iconst (nI 1) rfl 6 rfl d_Mod_above_5 ?_
    refine r_goto 29 rfl d_Mod_above_6 ?_
    exact r_iret rfl (Nat.zero_le _) (Nat.zero_le _) d_Mod_above_29 (by rw [← hQ]; exact ⟨by simp [abv, h2], rfl⟩)
theorem c_Mod_ran (X : Xn) (a ν : Nat → Nat) (σ : Nat → Nat → Int32) (τ : Nat → Int64) (s : Trc) (ht : s.1 < 100000) (b : Nat) : Does X 1 M_Mod_ran [.ref (a 0), .int (nI b)] (MW X a (u1 ν 36 s.1) (u2 σ 37 s.2) τ) 0 0 (fun (vv : Option Value) (ww : va_W) => vv = none ∧ ww = MW X a (u1 ν 36 (rnT s b).1) (u2 σ 37 (rnT s b).2) τ) := by
  generalize hQ : (fun (vv : Option Value) (ww : va_W) => vv = none ∧ ww = MW X a (u1 ν 36 (rnT s b).1) (u2 σ 37 (rnT s b).2) τ) = Q
  refine Does.go rfl (Nat.le_of_ble_eq_true rfl) [some (.ref (a 0)), some (.int (nI b))] 0 rfl ?_
  refine r_aload_n rfl 1 rfl d_Mod_ran_0 ?_
  refine r_getf (v := .int (nI s.1)) gf_Mod_326 0 rfl rfl 4 rfl d_Mod_ran_1 ?_
  refine r_bipush (nI 20) rfl 6 rfl d_Mod_ran_4 ?_
  refine r_icmp_geN s.1 20 (by omega) (by omega) 9 19 rfl rfl d_Mod_ran_6 (fun h6 => ?_) (fun h6 => ?_)
  · refine r_aload_n rfl 20 rfl d_Mod_ran_19 ?_
    refine r_dup rfl 21 rfl d_Mod_ran_20 ?_
    refine r_getf (v := .int (nI s.1)) gf_Mod_326 0 rfl rfl 24 rfl d_Mod_ran_21 ?_
    refine r_iconst (nI 1) rfl 25 rfl d_Mod_ran_24 ?_
    refine r_iadd 26 rfl d_Mod_ran_25 ?_
    refine r_topi (nI (s.1 + 1)) (nI_add _ _) ?_
    refine r_putf (w2 := MW X a (u1 (u1 ν 36 s.1) 36 (s.1 + 1)) (u2 σ 37 s.2) τ) pf_Mod_326 0 rfl (rfl) rfl (Nat.le_of_ble_eq_true rfl) rfl 29 rfl d_Mod_ran_26 ?_
    exact r_vret rfl (Nat.zero_le _) (Nat.zero_le _) d_Mod_ran_29 (by rw [← hQ]; exact ⟨rfl, by simp only [rnT, if_neg (Nat.not_lt.mpr h6), if_true, if_false]; rw [u1_u1]⟩)
  · refine r_aload_n rfl 10 rfl d_Mod_ran_9 ?_
    refine r_getf (v := .ref (a 37)) gf_Mod_82 0 rfl rfl 13 rfl d_Mod_ran_10 ?_
    refine r_aload_n rfl 14 rfl d_Mod_ran_13 ?_
    refine r_getf (v := .int (nI s.1)) gf_Mod_326 0 rfl rfl 17 rfl d_Mod_ran_14 ?_
    refine r_iload_n rfl 18 rfl d_Mod_ran_17 ?_
    refine r_iast (w2 := MW X a (u1 ν 36 s.1) (u2 (u2 σ 37 s.2) 37 (upd s.2 s.1 (nI b))) τ) 24 rfl s.1 rfl (by omega) (by omega) rfl 19 rfl d_Mod_ran_18 ?_
    refine r_aload_n rfl 20 rfl d_Mod_ran_19 ?_
    refine r_dup rfl 21 rfl d_Mod_ran_20 ?_
    refine r_getf (v := .int (nI s.1)) gf_Mod_326 0 rfl rfl 24 rfl d_Mod_ran_21 ?_
    refine r_iconst (nI 1) rfl 25 rfl d_Mod_ran_24 ?_
    refine r_iadd 26 rfl d_Mod_ran_25 ?_
    refine r_topi (nI (s.1 + 1)) (nI_add _ _) ?_
    refine r_putf (w2 := MW X a (u1 (u1 ν 36 s.1) 36 (s.1 + 1)) (u2 (u2 σ 37 s.2) 37 (upd s.2 s.1 (nI b))) τ) pf_Mod_326 0 rfl (rfl) rfl (Nat.le_of_ble_eq_true rfl) rfl 29 rfl d_Mod_ran_26 ?_
    exact r_vret rfl (Nat.zero_le _) (Nat.zero_le _) d_Mod_ran_29 (by rw [← hQ]; exact ⟨rfl, by simp only [rnT, if_pos h6, if_true, if_false]; rw [u1_u1, u2_u2]⟩)
theorem c_Mod_grips (X : Xn) (a ν : Nat → Nat) (σ : Nat → Nat → Int32) (τ : Nat → Int64) (p : Nat) (v : Int32) (hkp : p < 6) (hv : σ 2 p = v) : ∀ (fu : Nat) (k : Nat) (x : Int32) (s : Trc), (k ≤ 6) → (k < fu) → (s.1 + 1 * fu < 100000) → Does X (2 + fu) M_Mod_grips [.ref (a 0), .int (nI p), .int (nI k), .int x] (MW X a (u1 ν 36 s.1) (u2 σ 37 s.2) τ) 0 0 (fun (vv : Option Value) (ww : va_W) => vv = some (.int (gr p v fu k x s).1) ∧ ww = MW X a (u1 ν 36 ((gr p v fu k x s).2).1) (u2 σ 37 ((gr p v fu k x s).2).2) τ) := by
  intro fu
  induction fu with
  | zero => intro k x s hk hf hs; exact absurd hf (Nat.not_lt_zero _)
  | succ fu ihf =>
  intro k x s hk hf hs
  generalize hQ : (fun (vv : Option Value) (ww : va_W) => vv = some (.int (gr p v (fu + 1) k x s).1) ∧ ww = MW X a (u1 ν 36 ((gr p v (fu + 1) k x s).2).1) (u2 σ 37 ((gr p v (fu + 1) k x s).2).2) τ) = Q
  refine Does.go rfl (Nat.le_of_ble_eq_true rfl) [some (.ref (a 0)), some (.int (nI p)), some (.int (nI k)), some (.int x)] 0 rfl ?_
  refine r_iload_n rfl 1 rfl d_Mod_grips_0 ?_
  by_cases h1_0 : nI k = 0
  · refine r_tableIn 96 d_Mod_grips_1 (by rw [h1_0]; decide) (by rw [h1_0]; decide) (by rw [h1_0]; try rfl) rfl ?_
    obtain rfl : k = 0 := (nI_eq (by omega) (by decide)).mp h1_0
    refine r_aload_n rfl 97 rfl d_Mod_grips_96 ?_
    refine r_bipush (nI 10) rfl 99 rfl d_Mod_grips_97 ?_
    refine r_callVA1 (st2 := []) (w2 := MW X a (u1 ν 36 (rnT s 10).1) (u2 σ 37 (rnT s 10).2) τ) lk_Mod_ran ln_Mod_329 (c_Mod_ran X a ν σ τ s (by first | omega | (simp only [rn1]; omega)) 10) (by first | decide | omega) rfl rfl (Nat.le_of_ble_eq_true rfl) (Nat.le_of_ble_eq_true rfl) (Nat.le_of_ble_eq_true rfl) 0 rfl rfl rfl rfl 102 rfl d_Mod_grips_99 ?_
    refine r_iload_n rfl 103 rfl d_Mod_grips_102 ?_
    refine r_iload_n rfl 104 rfl d_Mod_grips_103 ?_
    refine r_iadd 105 rfl d_Mod_grips_104 ?_
    exact r_iret rfl (Nat.zero_le _) (Nat.zero_le _) d_Mod_grips_105 (by rw [← hQ]; exact ⟨rfl, rfl⟩)
  by_cases h1_1 : nI k = 1
  · refine r_tableIn 106 d_Mod_grips_1 (by rw [h1_1]; decide) (by rw [h1_1]; decide) (by rw [h1_1]; try rfl) rfl ?_
    obtain rfl : k = 1 := (nI_eq (by omega) (by decide)).mp h1_1
    refine r_aload_n rfl 107 rfl d_Mod_grips_106 ?_
    refine r_iload_n rfl 108 rfl d_Mod_grips_107 ?_
    refine r_iload_n rfl 109 rfl d_Mod_grips_108 ?_
    refine r_callS1 (st2 := [.int (nI (abv 1)), .int (nI p), .ref (a 0)]) (w2 := MW X a (u1 ν 36 s.1) (u2 σ 37 s.2) τ) lk_Mod_above ln_Mod_336 (c_Mod_above X 1 (by omega)) (by first | decide | omega) rfl rfl (Nat.le_of_ble_eq_true rfl) (Nat.le_of_ble_eq_true rfl) (Nat.le_of_ble_eq_true rfl) [] rfl rfl rfl rfl rfl 112 rfl d_Mod_grips_109 ?_
    refine r_iload_n rfl 113 rfl d_Mod_grips_112 ?_
    refine r_callVA1 (st2 := [.int ((gr p v fu (abv 1) x s).1)]) (w2 := MW X a (u1 ν 36 ((gr p v fu (abv 1) x s).2).1) (u2 σ 37 ((gr p v fu (abv 1) x s).2).2) τ) lk_Mod_grips ln_Mod_332 (ihf (abv 1) x s (by first | omega | (simp only [abv]; (repeat' split) <;> omega)) (by first | omega | (simp only [abv]; (repeat' split) <;> omega)) (by first | omega | (simp only [rn1]; omega))) (by first | decide | omega) rfl rfl (Nat.le_of_ble_eq_true rfl) (Nat.le_of_ble_eq_true rfl) (Nat.le_of_ble_eq_true rfl) 0 rfl rfl rfl rfl 116 rfl d_Mod_grips_113 ?_
    exact r_iret rfl (Nat.zero_le _) (Nat.zero_le _) d_Mod_grips_116 (by rw [← hQ]; exact ⟨rfl, rfl⟩)
  by_cases h1_2 : nI k = 2
  · refine r_tableIn 44 d_Mod_grips_1 (by rw [h1_2]; decide) (by rw [h1_2]; decide) (by rw [h1_2]; try rfl) rfl ?_
    obtain rfl : k = 2 := (nI_eq (by omega) (by decide)).mp h1_2
    refine r_aload_n rfl 45 rfl d_Mod_grips_44 ?_
    refine r_bipush (nI 30) rfl 47 rfl d_Mod_grips_45 ?_
    refine r_callVA1 (st2 := []) (w2 := MW X a (u1 ν 36 (rnT s 30).1) (u2 σ 37 (rnT s 30).2) τ) lk_Mod_ran ln_Mod_329 (c_Mod_ran X a ν σ τ s (by first | omega | (simp only [rn1]; omega)) 30) (by first | decide | omega) rfl rfl (Nat.le_of_ble_eq_true rfl) (Nat.le_of_ble_eq_true rfl) (Nat.le_of_ble_eq_true rfl) 0 rfl rfl rfl rfl 50 rfl d_Mod_grips_47 ?_
    refine r_aload_n rfl 51 rfl d_Mod_grips_50 ?_
    refine r_iload_n rfl 52 rfl d_Mod_grips_51 ?_
    refine r_iconst (nI 0) rfl 53 rfl d_Mod_grips_52 ?_
    refine r_iload_n rfl 54 rfl d_Mod_grips_53 ?_
    refine r_iconst (nI 3) rfl 55 rfl d_Mod_grips_54 ?_
    refine r_imul 56 rfl d_Mod_grips_55 ?_
    refine r_callVA1 (st2 := [.int ((gr p v fu 0 (x * (nI 3)) (rnT s 30)).1)]) (w2 := MW X a (u1 ν 36 ((gr p v fu 0 (x * (nI 3)) (rnT s 30)).2).1) (u2 σ 37 ((gr p v fu 0 (x * (nI 3)) (rnT s 30)).2).2) τ) lk_Mod_grips ln_Mod_332 (ihf 0 (x * (nI 3)) (rnT s 30) (by first | omega | (simp only [abv]; (repeat' split) <;> omega)) (by first | omega | (simp only [abv]; (repeat' split) <;> omega)) (by first | omega | (simp only [rn1]; omega))) (by first | decide | omega) rfl rfl (Nat.le_of_ble_eq_true rfl) (Nat.le_of_ble_eq_true rfl) (Nat.le_of_ble_eq_true rfl) 0 rfl rfl rfl rfl 59 rfl d_Mod_grips_56 ?_
    exact r_iret rfl (Nat.zero_le _) (Nat.zero_le _) d_Mod_grips_59 (by rw [← hQ]; exact ⟨rfl, rfl⟩)
  by_cases h1_3 : nI k = 3
  · refine r_tableIn 106 d_Mod_grips_1 (by rw [h1_3]; decide) (by rw [h1_3]; decide) (by rw [h1_3]; try rfl) rfl ?_
    obtain rfl : k = 3 := (nI_eq (by omega) (by decide)).mp h1_3
    refine r_aload_n rfl 107 rfl d_Mod_grips_106 ?_
    refine r_iload_n rfl 108 rfl d_Mod_grips_107 ?_
    refine r_iload_n rfl 109 rfl d_Mod_grips_108 ?_
    refine r_callS1 (st2 := [.int (nI (abv 3)), .int (nI p), .ref (a 0)]) (w2 := MW X a (u1 ν 36 s.1) (u2 σ 37 s.2) τ) lk_Mod_above ln_Mod_336 (c_Mod_above X 3 (by omega)) (by first | decide | omega) rfl rfl (Nat.le_of_ble_eq_true rfl) (Nat.le_of_ble_eq_true rfl) (Nat.le_of_ble_eq_true rfl) [] rfl rfl rfl rfl rfl 112 rfl d_Mod_grips_109 ?_
    refine r_iload_n rfl 113 rfl d_Mod_grips_112 ?_
    refine r_callVA1 (st2 := [.int ((gr p v fu (abv 3) x s).1)]) (w2 := MW X a (u1 ν 36 ((gr p v fu (abv 3) x s).2).1) (u2 σ 37 ((gr p v fu (abv 3) x s).2).2) τ) lk_Mod_grips ln_Mod_332 (ihf (abv 3) x s (by first | omega | (simp only [abv]; (repeat' split) <;> omega)) (by first | omega | (simp only [abv]; (repeat' split) <;> omega)) (by first | omega | (simp only [rn1]; omega))) (by first | decide | omega) rfl rfl (Nat.le_of_ble_eq_true rfl) (Nat.le_of_ble_eq_true rfl) (Nat.le_of_ble_eq_true rfl) 0 rfl rfl rfl rfl 116 rfl d_Mod_grips_113 ?_
    exact r_iret rfl (Nat.zero_le _) (Nat.zero_le _) d_Mod_grips_116 (by rw [← hQ]; exact ⟨rfl, rfl⟩)
  by_cases h1_4 : nI k = 4
  · refine r_tableIn 60 d_Mod_grips_1 (by rw [h1_4]; decide) (by rw [h1_4]; decide) (by rw [h1_4]; try rfl) rfl ?_
    obtain rfl : k = 4 := (nI_eq (by omega) (by decide)).mp h1_4
    refine r_aload_n rfl 61 rfl d_Mod_grips_60 ?_
    refine r_bipush (nI 50) rfl 63 rfl d_Mod_grips_61 ?_
    refine r_callVA1 (st2 := []) (w2 := MW X a (u1 ν 36 (rnT s 50).1) (u2 σ 37 (rnT s 50).2) τ) lk_Mod_ran ln_Mod_329 (c_Mod_ran X a ν σ τ s (by first | omega | (simp only [rn1]; omega)) 50) (by first | decide | omega) rfl rfl (Nat.le_of_ble_eq_true rfl) (Nat.le_of_ble_eq_true rfl) (Nat.le_of_ble_eq_true rfl) 0 rfl rfl rfl rfl 66 rfl d_Mod_grips_63 ?_
    refine r_aload_n rfl 67 rfl d_Mod_grips_66 ?_
    refine r_iload_n rfl 68 rfl d_Mod_grips_67 ?_
    refine r_iconst (nI 1) rfl 69 rfl d_Mod_grips_68 ?_
    refine r_iload_n rfl 70 rfl d_Mod_grips_69 ?_
    refine r_callVA1 (st2 := [.int ((gr p v fu 1 x (rnT s 50)).1)]) (w2 := MW X a (u1 ν 36 ((gr p v fu 1 x (rnT s 50)).2).1) (u2 σ 37 ((gr p v fu 1 x (rnT s 50)).2).2) τ) lk_Mod_grips ln_Mod_332 (ihf 1 x (rnT s 50) (by first | omega | (simp only [abv]; (repeat' split) <;> omega)) (by first | omega | (simp only [abv]; (repeat' split) <;> omega)) (by first | omega | (simp only [rn1]; omega))) (by first | decide | omega) rfl rfl (Nat.le_of_ble_eq_true rfl) (Nat.le_of_ble_eq_true rfl) (Nat.le_of_ble_eq_true rfl) 0 rfl rfl rfl rfl 73 rfl d_Mod_grips_70 ?_
    refine r_ineg 74 rfl d_Mod_grips_73 ?_
    exact r_iret rfl (Nat.zero_le _) (Nat.zero_le _) d_Mod_grips_74 (by rw [← hQ]; exact ⟨rfl, rfl⟩)
  by_cases h1_5 : nI k = 5
  · refine r_tableIn 106 d_Mod_grips_1 (by rw [h1_5]; decide) (by rw [h1_5]; decide) (by rw [h1_5]; try rfl) rfl ?_
    obtain rfl : k = 5 := (nI_eq (by omega) (by decide)).mp h1_5
    refine r_aload_n rfl 107 rfl d_Mod_grips_106 ?_
    refine r_iload_n rfl 108 rfl d_Mod_grips_107 ?_
    refine r_iload_n rfl 109 rfl d_Mod_grips_108 ?_
    refine r_callS1 (st2 := [.int (nI (abv 5)), .int (nI p), .ref (a 0)]) (w2 := MW X a (u1 ν 36 s.1) (u2 σ 37 s.2) τ) lk_Mod_above ln_Mod_336 (c_Mod_above X 5 (by omega)) (by first | decide | omega) rfl rfl (Nat.le_of_ble_eq_true rfl) (Nat.le_of_ble_eq_true rfl) (Nat.le_of_ble_eq_true rfl) [] rfl rfl rfl rfl rfl 112 rfl d_Mod_grips_109 ?_
    refine r_iload_n rfl 113 rfl d_Mod_grips_112 ?_
    refine r_callVA1 (st2 := [.int ((gr p v fu (abv 5) x s).1)]) (w2 := MW X a (u1 ν 36 ((gr p v fu (abv 5) x s).2).1) (u2 σ 37 ((gr p v fu (abv 5) x s).2).2) τ) lk_Mod_grips ln_Mod_332 (ihf (abv 5) x s (by first | omega | (simp only [abv]; (repeat' split) <;> omega)) (by first | omega | (simp only [abv]; (repeat' split) <;> omega)) (by first | omega | (simp only [rn1]; omega))) (by first | decide | omega) rfl rfl (Nat.le_of_ble_eq_true rfl) (Nat.le_of_ble_eq_true rfl) (Nat.le_of_ble_eq_true rfl) 0 rfl rfl rfl rfl 116 rfl d_Mod_grips_113 ?_
    exact r_iret rfl (Nat.zero_le _) (Nat.zero_le _) d_Mod_grips_116 (by rw [← hQ]; exact ⟨rfl, rfl⟩)
  by_cases h1_6 : nI k = 6
  · refine r_tableIn 75 d_Mod_grips_1 (by rw [h1_6]; decide) (by rw [h1_6]; decide) (by rw [h1_6]; try rfl) rfl ?_
    obtain rfl : k = 6 := (nI_eq (by omega) (by decide)).mp h1_6
    refine r_aload_n rfl 76 rfl d_Mod_grips_75 ?_
    refine r_bipush (nI 71) rfl 78 rfl d_Mod_grips_76 ?_
    refine r_callVA1 (st2 := []) (w2 := MW X a (u1 ν 36 (rnT s 71).1) (u2 σ 37 (rnT s 71).2) τ) lk_Mod_ran ln_Mod_329 (c_Mod_ran X a ν σ τ s (by first | omega | (simp only [rn1]; omega)) 71) (by first | decide | omega) rfl rfl (Nat.le_of_ble_eq_true rfl) (Nat.le_of_ble_eq_true rfl) (Nat.le_of_ble_eq_true rfl) 0 rfl rfl rfl rfl 81 rfl d_Mod_grips_78 ?_
    refine r_aload_n rfl 82 rfl d_Mod_grips_81 ?_
    refine r_iload_n rfl 83 rfl d_Mod_grips_82 ?_
    refine r_iconst (nI 3) rfl 84 rfl d_Mod_grips_83 ?_
    refine r_iload_n rfl 85 rfl d_Mod_grips_84 ?_
    refine r_callVA1 (st2 := [.int ((gr p v fu 3 x (rnT s 71)).1)]) (w2 := MW X a (u1 ν 36 ((gr p v fu 3 x (rnT s 71)).2).1) (u2 σ 37 ((gr p v fu 3 x (rnT s 71)).2).2) τ) lk_Mod_grips ln_Mod_332 (ihf 3 x (rnT s 71) (by first | omega | (simp only [abv]; (repeat' split) <;> omega)) (by first | omega | (simp only [abv]; (repeat' split) <;> omega)) (by first | omega | (simp only [rn1]; omega))) (by first | decide | omega) rfl rfl (Nat.le_of_ble_eq_true rfl) (Nat.le_of_ble_eq_true rfl) (Nat.le_of_ble_eq_true rfl) 0 rfl rfl rfl rfl 88 rfl d_Mod_grips_85 ?_
    refine r_aload_n rfl 89 rfl d_Mod_grips_88 ?_
    refine r_getf (v := .ref (a 2)) gf_Mod_15 0 rfl rfl 92 rfl d_Mod_grips_89 ?_
    refine r_iload_n rfl 93 rfl d_Mod_grips_92 ?_
    refine r_iald 2 rfl p rfl (by omega) (by omega) 94 rfl d_Mod_grips_93 ?_
    refine r_topi v hv ?_
    refine r_ixor 95 rfl d_Mod_grips_94 ?_
    exact r_iret rfl (Nat.zero_le _) (Nat.zero_le _) d_Mod_grips_95 (by rw [← hQ]; exact ⟨rfl, rfl⟩)
  have t1_0 : ¬ (nI k).toInt = 0 := lv_neT h1_0 (by decide)
  have t1_1 : ¬ (nI k).toInt = 1 := lv_neT h1_1 (by decide)
  have t1_2 : ¬ (nI k).toInt = 2 := lv_neT h1_2 (by decide)
  have t1_3 : ¬ (nI k).toInt = 3 := lv_neT h1_3 (by decide)
  have t1_4 : ¬ (nI k).toInt = 4 := lv_neT h1_4 (by decide)
  have t1_5 : ¬ (nI k).toInt = 5 := lv_neT h1_5 (by decide)
  have t1_6 : ¬ (nI k).toInt = 6 := lv_neT h1_6 (by decide)
  refine r_tableOut 106 d_Mod_grips_1 (by omega) rfl ?_
  have z0 : ¬ k = 0 := fun z => h1_0 (by rw [z]; rfl)
  have z2 : ¬ k = 2 := fun z => h1_2 (by rw [z]; rfl)
  have z4 : ¬ k = 4 := fun z => h1_4 (by rw [z]; rfl)
  have z6 : ¬ k = 6 := fun z => h1_6 (by rw [z]; rfl)
  refine r_aload_n rfl 107 rfl d_Mod_grips_106 ?_
  refine r_iload_n rfl 108 rfl d_Mod_grips_107 ?_
  refine r_iload_n rfl 109 rfl d_Mod_grips_108 ?_
  refine r_callS1 (st2 := [.int (nI (abv k)), .int (nI p), .ref (a 0)]) (w2 := MW X a (u1 ν 36 s.1) (u2 σ 37 s.2) τ) lk_Mod_above ln_Mod_336 (c_Mod_above X k (by omega)) (by first | decide | omega) rfl rfl (Nat.le_of_ble_eq_true rfl) (Nat.le_of_ble_eq_true rfl) (Nat.le_of_ble_eq_true rfl) [] rfl rfl rfl rfl rfl 112 rfl d_Mod_grips_109 ?_
  refine r_iload_n rfl 113 rfl d_Mod_grips_112 ?_
  refine r_callVA1 (st2 := [.int ((gr p v fu (abv k) x s).1)]) (w2 := MW X a (u1 ν 36 ((gr p v fu (abv k) x s).2).1) (u2 σ 37 ((gr p v fu (abv k) x s).2).2) τ) lk_Mod_grips ln_Mod_332 (ihf (abv k) x s (by first | omega | (simp only [abv]; (repeat' split) <;> omega)) (by first | omega | (simp only [abv]; (repeat' split) <;> omega)) (by first | omega | (simp only [rn1]; omega))) (by first | decide | omega) rfl rfl (Nat.le_of_ble_eq_true rfl) (Nat.le_of_ble_eq_true rfl) (Nat.le_of_ble_eq_true rfl) 0 rfl rfl rfl rfl 116 rfl d_Mod_grips_113 ?_
  exact r_iret rfl (Nat.zero_le _) (Nat.zero_le _) d_Mod_grips_116 (by rw [← hQ]; rw [gr, if_neg z0, if_neg z2, if_neg z4, if_neg z6]; exact ⟨rfl, rfl⟩)
theorem c_Mod_lets (X : Xn) (a ν : Nat → Nat) (σ : Nat → Nat → Int32) (τ : Nat → Int64) (p : Nat) (v : Int32) (hkp : p < 6) (hv : σ 2 p = v) (K : Nat) (hK : σ 1 p = nI K) (hK6 : K ≤ 6) : ∀ (fu : Nat) (k : Nat) (x : Int32) (s : Trc), (k ≤ 6) → (k < fu) → (s.1 + 16 * fu < 100000) → Does X (10 + fu) M_Mod_lets [.ref (a 0), .int (nI p), .int (nI k), .int x] (MW X a (u1 ν 36 s.1) (u2 σ 37 s.2) τ) 0 0 (fun (vv : Option Value) (ww : va_W) => vv = some (.int (le p K v fu k x s).1) ∧ ww = MW X a (u1 ν 36 ((le p K v fu k x s).2).1) (u2 σ 37 ((le p K v fu k x s).2).2) τ) := by
  intro fu
  induction fu with
  | zero => intro k x s hk hf hs; exact absurd hf (Nat.not_lt_zero _)
  | succ fu ihf =>
  intro k x s hk hf hs
  generalize hQ : (fun (vv : Option Value) (ww : va_W) => vv = some (.int (le p K v (fu + 1) k x s).1) ∧ ww = MW X a (u1 ν 36 ((le p K v (fu + 1) k x s).2).1) (u2 σ 37 ((le p K v (fu + 1) k x s).2).2) τ) = Q
  refine Does.go rfl (Nat.le_of_ble_eq_true rfl) [some (.ref (a 0)), some (.int (nI p)), some (.int (nI k)), some (.int x), none] 1 rfl ?_
  refine r_iload_n rfl 1 rfl d_Mod_lets_0 ?_
  by_cases h1_0 : nI k = 0
  · refine r_tableIn 103 d_Mod_lets_1 (by rw [h1_0]; decide) (by rw [h1_0]; decide) (by rw [h1_0]; try rfl) rfl ?_
    obtain rfl : k = 0 := (nI_eq (by omega) (by decide)).mp h1_0
    refine r_aload_n rfl 104 rfl d_Mod_lets_103 ?_
    refine r_bipush (nI 11) rfl 106 rfl d_Mod_lets_104 ?_
    refine r_callVA1 (st2 := []) (w2 := MW X a (u1 ν 36 (rnT s 11).1) (u2 σ 37 (rnT s 11).2) τ) lk_Mod_ran ln_Mod_329 (c_Mod_ran X a ν σ τ s (by first | omega | (simp only [rn1]; omega)) 11) (by first | decide | omega) rfl rfl (Nat.le_of_ble_eq_true rfl) (Nat.le_of_ble_eq_true rfl) (Nat.le_of_ble_eq_true rfl) 0 rfl rfl rfl rfl 109 rfl d_Mod_lets_106 ?_
    refine r_aload_n rfl 110 rfl d_Mod_lets_109 ?_
    refine r_iload_n rfl 111 rfl d_Mod_lets_110 ?_
    refine r_aload_n rfl 112 rfl d_Mod_lets_111 ?_
    refine r_getf (v := .ref (a 1)) gf_Mod_9 0 rfl rfl 115 rfl d_Mod_lets_112 ?_
    refine r_iload_n rfl 116 rfl d_Mod_lets_115 ?_
    refine r_iald 1 rfl p rfl (by omega) (by omega) 117 rfl d_Mod_lets_116 ?_
    refine r_topi (nI K) hK ?_
    refine r_iload_n rfl 118 rfl d_Mod_lets_117 ?_
    refine r_callVA1 (st2 := [.int ((gr p v 7 K x (rnT s 11)).1)]) (w2 := MW X a (u1 ν 36 ((gr p v 7 K x (rnT s 11)).2).1) (u2 σ 37 ((gr p v 7 K x (rnT s 11)).2).2) τ) lk_Mod_grips ln_Mod_332 (c_Mod_grips X a ν σ τ p v hkp hv 7 K x (rnT s 11) (by omega) (by omega) (by first | (simp only [rn1]; omega) | (have := le_cnt p K v fu 3 x (rnT s 70); simp only [rn1] at this; omega))) (by first | decide | omega) rfl rfl (Nat.le_of_ble_eq_true rfl) (Nat.le_of_ble_eq_true rfl) (Nat.le_of_ble_eq_true rfl) 0 rfl rfl rfl rfl 121 rfl d_Mod_lets_118 ?_
    refine r_aload_n rfl 122 rfl d_Mod_lets_121 ?_
    refine r_getf (v := .ref (a 2)) gf_Mod_15 0 rfl rfl 125 rfl d_Mod_lets_122 ?_
    refine r_iload_n rfl 126 rfl d_Mod_lets_125 ?_
    refine r_iald 2 rfl p rfl (by omega) (by omega) 127 rfl d_Mod_lets_126 ?_
    refine r_topi v hv ?_
    refine r_isub 128 rfl d_Mod_lets_127 ?_
    exact r_iret rfl (Nat.zero_le _) (Nat.zero_le _) d_Mod_lets_128 (by rw [← hQ]; exact ⟨rfl, rfl⟩)
  by_cases h1_1 : nI k = 1
  · refine r_tableIn 44 d_Mod_lets_1 (by rw [h1_1]; decide) (by rw [h1_1]; decide) (by rw [h1_1]; try rfl) rfl ?_
    obtain rfl : k = 1 := (nI_eq (by omega) (by decide)).mp h1_1
    refine r_aload_n rfl 45 rfl d_Mod_lets_44 ?_
    refine r_bipush (nI 20) rfl 47 rfl d_Mod_lets_45 ?_
    refine r_callVA1 (st2 := []) (w2 := MW X a (u1 ν 36 (rnT s 20).1) (u2 σ 37 (rnT s 20).2) τ) lk_Mod_ran ln_Mod_329 (c_Mod_ran X a ν σ τ s (by first | omega | (simp only [rn1]; omega)) 20) (by first | decide | omega) rfl rfl (Nat.le_of_ble_eq_true rfl) (Nat.le_of_ble_eq_true rfl) (Nat.le_of_ble_eq_true rfl) 0 rfl rfl rfl rfl 50 rfl d_Mod_lets_47 ?_
    refine r_aload_n rfl 51 rfl d_Mod_lets_50 ?_
    refine r_iload_n rfl 52 rfl d_Mod_lets_51 ?_
    refine r_iconst (nI 0) rfl 53 rfl d_Mod_lets_52 ?_
    refine r_iload_n rfl 54 rfl d_Mod_lets_53 ?_
    refine r_callVA1 (st2 := [.int ((le p K v fu 0 x (rnT s 20)).1)]) (w2 := MW X a (u1 ν 36 ((le p K v fu 0 x (rnT s 20)).2).1) (u2 σ 37 ((le p K v fu 0 x (rnT s 20)).2).2) τ) lk_Mod_lets ln_Mod_339 (ihf 0 x (rnT s 20) (by first | omega | (simp only [abv]; (repeat' split) <;> omega)) (by first | omega | (simp only [abv]; (repeat' split) <;> omega)) (by first | omega | (simp only [rn1]; omega))) (by first | decide | omega) rfl rfl (Nat.le_of_ble_eq_true rfl) (Nat.le_of_ble_eq_true rfl) (Nat.le_of_ble_eq_true rfl) 0 rfl rfl rfl rfl 57 rfl d_Mod_lets_54 ?_
    refine r_bipush (nI 6) rfl 59 rfl d_Mod_lets_57 ?_
    refine r_ixor 60 rfl d_Mod_lets_59 ?_
    exact r_iret rfl (Nat.zero_le _) (Nat.zero_le _) d_Mod_lets_60 (by rw [← hQ]; exact ⟨rfl, rfl⟩)
  by_cases h1_2 : nI k = 2
  · refine r_tableIn 129 d_Mod_lets_1 (by rw [h1_2]; decide) (by rw [h1_2]; decide) (by rw [h1_2]; try rfl) rfl ?_
    obtain rfl : k = 2 := (nI_eq (by omega) (by decide)).mp h1_2
    refine r_aload_n rfl 130 rfl d_Mod_lets_129 ?_
    refine r_iload_n rfl 131 rfl d_Mod_lets_130 ?_
    refine r_iload_n rfl 132 rfl d_Mod_lets_131 ?_
    refine r_callS1 (st2 := [.int (nI (abv 2)), .int (nI p), .ref (a 0)]) (w2 := MW X a (u1 ν 36 s.1) (u2 σ 37 s.2) τ) lk_Mod_above ln_Mod_336 (c_Mod_above X 2 (by omega)) (by first | decide | omega) rfl rfl (Nat.le_of_ble_eq_true rfl) (Nat.le_of_ble_eq_true rfl) (Nat.le_of_ble_eq_true rfl) [] rfl rfl rfl rfl rfl 135 rfl d_Mod_lets_132 ?_
    refine r_iload_n rfl 136 rfl d_Mod_lets_135 ?_
    refine r_callVA1 (st2 := [.int ((le p K v fu (abv 2) x s).1)]) (w2 := MW X a (u1 ν 36 ((le p K v fu (abv 2) x s).2).1) (u2 σ 37 ((le p K v fu (abv 2) x s).2).2) τ) lk_Mod_lets ln_Mod_339 (ihf (abv 2) x s (by first | omega | (simp only [abv]; (repeat' split) <;> omega)) (by first | omega | (simp only [abv]; (repeat' split) <;> omega)) (by first | omega | (simp only [rn1]; omega))) (by first | decide | omega) rfl rfl (Nat.le_of_ble_eq_true rfl) (Nat.le_of_ble_eq_true rfl) (Nat.le_of_ble_eq_true rfl) 0 rfl rfl rfl rfl 139 rfl d_Mod_lets_136 ?_
    exact r_iret rfl (Nat.zero_le _) (Nat.zero_le _) d_Mod_lets_139 (by rw [← hQ]; exact ⟨rfl, rfl⟩)
  by_cases h1_3 : nI k = 3
  · refine r_tableIn 129 d_Mod_lets_1 (by rw [h1_3]; decide) (by rw [h1_3]; decide) (by rw [h1_3]; try rfl) rfl ?_
    obtain rfl : k = 3 := (nI_eq (by omega) (by decide)).mp h1_3
    refine r_aload_n rfl 130 rfl d_Mod_lets_129 ?_
    refine r_iload_n rfl 131 rfl d_Mod_lets_130 ?_
    refine r_iload_n rfl 132 rfl d_Mod_lets_131 ?_
    refine r_callS1 (st2 := [.int (nI (abv 3)), .int (nI p), .ref (a 0)]) (w2 := MW X a (u1 ν 36 s.1) (u2 σ 37 s.2) τ) lk_Mod_above ln_Mod_336 (c_Mod_above X 3 (by omega)) (by first | decide | omega) rfl rfl (Nat.le_of_ble_eq_true rfl) (Nat.le_of_ble_eq_true rfl) (Nat.le_of_ble_eq_true rfl) [] rfl rfl rfl rfl rfl 135 rfl d_Mod_lets_132 ?_
    refine r_iload_n rfl 136 rfl d_Mod_lets_135 ?_
    refine r_callVA1 (st2 := [.int ((le p K v fu (abv 3) x s).1)]) (w2 := MW X a (u1 ν 36 ((le p K v fu (abv 3) x s).2).1) (u2 σ 37 ((le p K v fu (abv 3) x s).2).2) τ) lk_Mod_lets ln_Mod_339 (ihf (abv 3) x s (by first | omega | (simp only [abv]; (repeat' split) <;> omega)) (by first | omega | (simp only [abv]; (repeat' split) <;> omega)) (by first | omega | (simp only [rn1]; omega))) (by first | decide | omega) rfl rfl (Nat.le_of_ble_eq_true rfl) (Nat.le_of_ble_eq_true rfl) (Nat.le_of_ble_eq_true rfl) 0 rfl rfl rfl rfl 139 rfl d_Mod_lets_136 ?_
    exact r_iret rfl (Nat.zero_le _) (Nat.zero_le _) d_Mod_lets_139 (by rw [← hQ]; exact ⟨rfl, rfl⟩)
  by_cases h1_4 : nI k = 4
  · refine r_tableIn 61 d_Mod_lets_1 (by rw [h1_4]; decide) (by rw [h1_4]; decide) (by rw [h1_4]; try rfl) rfl ?_
    obtain rfl : k = 4 := (nI_eq (by omega) (by decide)).mp h1_4
    refine r_aload_n rfl 62 rfl d_Mod_lets_61 ?_
    refine r_bipush (nI 51) rfl 64 rfl d_Mod_lets_62 ?_
    refine r_callVA1 (st2 := []) (w2 := MW X a (u1 ν 36 (rnT s 51).1) (u2 σ 37 (rnT s 51).2) τ) lk_Mod_ran ln_Mod_329 (c_Mod_ran X a ν σ τ s (by first | omega | (simp only [rn1]; omega)) 51) (by first | decide | omega) rfl rfl (Nat.le_of_ble_eq_true rfl) (Nat.le_of_ble_eq_true rfl) (Nat.le_of_ble_eq_true rfl) 0 rfl rfl rfl rfl 67 rfl d_Mod_lets_64 ?_
    refine r_aload_n rfl 68 rfl d_Mod_lets_67 ?_
    refine r_iload_n rfl 69 rfl d_Mod_lets_68 ?_
    refine r_iconst (nI 1) rfl 70 rfl d_Mod_lets_69 ?_
    refine r_iload_n rfl 71 rfl d_Mod_lets_70 ?_
    refine r_iconst (nI 1) rfl 72 rfl d_Mod_lets_71 ?_
    refine r_iadd 73 rfl d_Mod_lets_72 ?_
    refine r_callVA1 (st2 := [.int ((le p K v fu 1 (x + (nI 1)) (rnT s 51)).1)]) (w2 := MW X a (u1 ν 36 ((le p K v fu 1 (x + (nI 1)) (rnT s 51)).2).1) (u2 σ 37 ((le p K v fu 1 (x + (nI 1)) (rnT s 51)).2).2) τ) lk_Mod_lets ln_Mod_339 (ihf 1 (x + (nI 1)) (rnT s 51) (by first | omega | (simp only [abv]; (repeat' split) <;> omega)) (by first | omega | (simp only [abv]; (repeat' split) <;> omega)) (by first | omega | (simp only [rn1]; omega))) (by first | decide | omega) rfl rfl (Nat.le_of_ble_eq_true rfl) (Nat.le_of_ble_eq_true rfl) (Nat.le_of_ble_eq_true rfl) 0 rfl rfl rfl rfl 76 rfl d_Mod_lets_73 ?_
    exact r_iret rfl (Nat.zero_le _) (Nat.zero_le _) d_Mod_lets_76 (by rw [← hQ]; exact ⟨rfl, rfl⟩)
  by_cases h1_5 : nI k = 5
  · refine r_tableIn 129 d_Mod_lets_1 (by rw [h1_5]; decide) (by rw [h1_5]; decide) (by rw [h1_5]; try rfl) rfl ?_
    obtain rfl : k = 5 := (nI_eq (by omega) (by decide)).mp h1_5
    refine r_aload_n rfl 130 rfl d_Mod_lets_129 ?_
    refine r_iload_n rfl 131 rfl d_Mod_lets_130 ?_
    refine r_iload_n rfl 132 rfl d_Mod_lets_131 ?_
    refine r_callS1 (st2 := [.int (nI (abv 5)), .int (nI p), .ref (a 0)]) (w2 := MW X a (u1 ν 36 s.1) (u2 σ 37 s.2) τ) lk_Mod_above ln_Mod_336 (c_Mod_above X 5 (by omega)) (by first | decide | omega) rfl rfl (Nat.le_of_ble_eq_true rfl) (Nat.le_of_ble_eq_true rfl) (Nat.le_of_ble_eq_true rfl) [] rfl rfl rfl rfl rfl 135 rfl d_Mod_lets_132 ?_
    refine r_iload_n rfl 136 rfl d_Mod_lets_135 ?_
    refine r_callVA1 (st2 := [.int ((le p K v fu (abv 5) x s).1)]) (w2 := MW X a (u1 ν 36 ((le p K v fu (abv 5) x s).2).1) (u2 σ 37 ((le p K v fu (abv 5) x s).2).2) τ) lk_Mod_lets ln_Mod_339 (ihf (abv 5) x s (by first | omega | (simp only [abv]; (repeat' split) <;> omega)) (by first | omega | (simp only [abv]; (repeat' split) <;> omega)) (by first | omega | (simp only [rn1]; omega))) (by first | decide | omega) rfl rfl (Nat.le_of_ble_eq_true rfl) (Nat.le_of_ble_eq_true rfl) (Nat.le_of_ble_eq_true rfl) 0 rfl rfl rfl rfl 139 rfl d_Mod_lets_136 ?_
    exact r_iret rfl (Nat.zero_le _) (Nat.zero_le _) d_Mod_lets_139 (by rw [← hQ]; exact ⟨rfl, rfl⟩)
  by_cases h1_6 : nI k = 6
  · refine r_tableIn 77 d_Mod_lets_1 (by rw [h1_6]; decide) (by rw [h1_6]; decide) (by rw [h1_6]; try rfl) rfl ?_
    obtain rfl : k = 6 := (nI_eq (by omega) (by decide)).mp h1_6
    refine r_aload_n rfl 78 rfl d_Mod_lets_77 ?_
    refine r_bipush (nI 70) rfl 80 rfl d_Mod_lets_78 ?_
    refine r_callVA1 (st2 := []) (w2 := MW X a (u1 ν 36 (rnT s 70).1) (u2 σ 37 (rnT s 70).2) τ) lk_Mod_ran ln_Mod_329 (c_Mod_ran X a ν σ τ s (by first | omega | (simp only [rn1]; omega)) 70) (by first | decide | omega) rfl rfl (Nat.le_of_ble_eq_true rfl) (Nat.le_of_ble_eq_true rfl) (Nat.le_of_ble_eq_true rfl) 0 rfl rfl rfl rfl 83 rfl d_Mod_lets_80 ?_
    refine r_aload_n rfl 84 rfl d_Mod_lets_83 ?_
    refine r_iload_n rfl 85 rfl d_Mod_lets_84 ?_
    refine r_iconst (nI 3) rfl 86 rfl d_Mod_lets_85 ?_
    refine r_iload_n rfl 87 rfl d_Mod_lets_86 ?_
    refine r_callVA1 (st2 := [.int ((le p K v fu 3 x (rnT s 70)).1)]) (w2 := MW X a (u1 ν 36 ((le p K v fu 3 x (rnT s 70)).2).1) (u2 σ 37 ((le p K v fu 3 x (rnT s 70)).2).2) τ) lk_Mod_lets ln_Mod_339 (ihf 3 x (rnT s 70) (by first | omega | (simp only [abv]; (repeat' split) <;> omega)) (by first | omega | (simp only [abv]; (repeat' split) <;> omega)) (by first | omega | (simp only [rn1]; omega))) (by first | decide | omega) rfl rfl (Nat.le_of_ble_eq_true rfl) (Nat.le_of_ble_eq_true rfl) (Nat.le_of_ble_eq_true rfl) 0 rfl rfl rfl rfl 90 rfl d_Mod_lets_87 ?_
    refine r_istore (ls2 := [some (.ref (a 0)), some (.int (nI p)), some (.int (nI 6)), some (.int x), some (.int ((le p K v fu 3 x (rnT s 70)).1))]) 92 rfl d_Mod_lets_90 (by decide) rfl rfl ?_
    refine r_iload rfl 94 rfl d_Mod_lets_92 ?_
    refine r_aload_n rfl 95 rfl d_Mod_lets_94 ?_
    refine r_iload_n rfl 96 rfl d_Mod_lets_95 ?_
    refine r_iconst (nI 3) rfl 97 rfl d_Mod_lets_96 ?_
    refine r_iconst (nI 2) rfl 98 rfl d_Mod_lets_97 ?_
    refine r_callVA1 (st2 := [.int ((gr p v 7 3 (nI 2) ((le p K v fu 3 x (rnT s 70)).2)).1), .int ((le p K v fu 3 x (rnT s 70)).1)]) (w2 := MW X a (u1 ν 36 ((gr p v 7 3 (nI 2) ((le p K v fu 3 x (rnT s 70)).2)).2).1) (u2 σ 37 ((gr p v 7 3 (nI 2) ((le p K v fu 3 x (rnT s 70)).2)).2).2) τ) lk_Mod_grips ln_Mod_332 (c_Mod_grips X a ν σ τ p v hkp hv 7 3 (nI 2) ((le p K v fu 3 x (rnT s 70)).2) (by omega) (by omega) (by first | (simp only [rn1]; omega) | (have := le_cnt p K v fu 3 x (rnT s 70); simp only [rn1] at this; omega))) (by first | decide | omega) rfl rfl (Nat.le_of_ble_eq_true rfl) (Nat.le_of_ble_eq_true rfl) (Nat.le_of_ble_eq_true rfl) 0 rfl rfl rfl rfl 101 rfl d_Mod_lets_98 ?_
    refine r_iadd 102 rfl d_Mod_lets_101 ?_
    exact r_iret rfl (Nat.zero_le _) (Nat.zero_le _) d_Mod_lets_102 (by rw [← hQ]; exact ⟨rfl, rfl⟩)
  have t1_0 : ¬ (nI k).toInt = 0 := lv_neT h1_0 (by decide)
  have t1_1 : ¬ (nI k).toInt = 1 := lv_neT h1_1 (by decide)
  have t1_2 : ¬ (nI k).toInt = 2 := lv_neT h1_2 (by decide)
  have t1_3 : ¬ (nI k).toInt = 3 := lv_neT h1_3 (by decide)
  have t1_4 : ¬ (nI k).toInt = 4 := lv_neT h1_4 (by decide)
  have t1_5 : ¬ (nI k).toInt = 5 := lv_neT h1_5 (by decide)
  have t1_6 : ¬ (nI k).toInt = 6 := lv_neT h1_6 (by decide)
  refine r_tableOut 129 d_Mod_lets_1 (by omega) rfl ?_
  have z0 : ¬ k = 0 := fun z => h1_0 (by rw [z]; rfl)
  have z1 : ¬ k = 1 := fun z => h1_1 (by rw [z]; rfl)
  have z4 : ¬ k = 4 := fun z => h1_4 (by rw [z]; rfl)
  have z6 : ¬ k = 6 := fun z => h1_6 (by rw [z]; rfl)
  refine r_aload_n rfl 130 rfl d_Mod_lets_129 ?_
  refine r_iload_n rfl 131 rfl d_Mod_lets_130 ?_
  refine r_iload_n rfl 132 rfl d_Mod_lets_131 ?_
  refine r_callS1 (st2 := [.int (nI (abv k)), .int (nI p), .ref (a 0)]) (w2 := MW X a (u1 ν 36 s.1) (u2 σ 37 s.2) τ) lk_Mod_above ln_Mod_336 (c_Mod_above X k (by omega)) (by first | decide | omega) rfl rfl (Nat.le_of_ble_eq_true rfl) (Nat.le_of_ble_eq_true rfl) (Nat.le_of_ble_eq_true rfl) [] rfl rfl rfl rfl rfl 135 rfl d_Mod_lets_132 ?_
  refine r_iload_n rfl 136 rfl d_Mod_lets_135 ?_
  refine r_callVA1 (st2 := [.int ((le p K v fu (abv k) x s).1)]) (w2 := MW X a (u1 ν 36 ((le p K v fu (abv k) x s).2).1) (u2 σ 37 ((le p K v fu (abv k) x s).2).2) τ) lk_Mod_lets ln_Mod_339 (ihf (abv k) x s (by first | omega | (simp only [abv]; (repeat' split) <;> omega)) (by first | omega | (simp only [abv]; (repeat' split) <;> omega)) (by first | omega | (simp only [rn1]; omega))) (by first | decide | omega) rfl rfl (Nat.le_of_ble_eq_true rfl) (Nat.le_of_ble_eq_true rfl) (Nat.le_of_ble_eq_true rfl) 0 rfl rfl rfl rfl 139 rfl d_Mod_lets_136 ?_
  exact r_iret rfl (Nat.zero_le _) (Nat.zero_le _) d_Mod_lets_139 (by rw [← hQ]; rw [le, if_neg z0, if_neg z1, if_neg z4, if_neg z6]; exact ⟨rfl, rfl⟩)
theorem c_Mod_tells (X : Xn) (a ν : Nat → Nat) (σ : Nat → Nat → Int32) (τ : Nat → Int64) (p : Nat) (v : Int32) (hkp : p < 6) (hv : σ 2 p = v) (K : Nat) (hK : σ 1 p = nI K) (hK6 : K ≤ 6) : ∀ (fu : Nat) (k : Nat) (x : Int32) (s : Trc), (k ≤ 6) → (k < fu) → (s.1 + 256 * fu < 100000) → Does X (20 + fu) M_Mod_tells [.ref (a 0), .int (nI p), .int (nI k), .int x] (MW X a (u1 ν 36 s.1) (u2 σ 37 s.2) τ) 0 0 (fun (vv : Option Value) (ww : va_W) => vv = some (.int (te p K v fu k x s).1) ∧ ww = MW X a (u1 ν 36 ((te p K v fu k x s).2).1) (u2 σ 37 ((te p K v fu k x s).2).2) τ) := by
  intro fu
  induction fu with
  | zero => intro k x s hk hf hs; exact absurd hf (Nat.not_lt_zero _)
  | succ fu ihf =>
  intro k x s hk hf hs
  generalize hQ : (fun (vv : Option Value) (ww : va_W) => vv = some (.int (te p K v (fu + 1) k x s).1) ∧ ww = MW X a (u1 ν 36 ((te p K v (fu + 1) k x s).2).1) (u2 σ 37 ((te p K v (fu + 1) k x s).2).2) τ) = Q
  refine Does.go rfl (Nat.le_of_ble_eq_true rfl) [some (.ref (a 0)), some (.int (nI p)), some (.int (nI k)), some (.int x), none] 1 rfl ?_
  refine r_iload_n rfl 1 rfl d_Mod_tells_0 ?_
  by_cases h1_0 : nI k = 0
  · refine r_lookup 83 d_Mod_tells_1 (by decide) (by rw [h1_0]; try rfl) rfl ?_
    obtain rfl : k = 0 := (nI_eq (by omega) (by decide)).mp h1_0
    refine r_aload_n rfl 84 rfl d_Mod_tells_83 ?_
    refine r_bipush (nI 12) rfl 86 rfl d_Mod_tells_84 ?_
    refine r_callVA1 (st2 := []) (w2 := MW X a (u1 ν 36 (rnT s 12).1) (u2 σ 37 (rnT s 12).2) τ) lk_Mod_ran ln_Mod_329 (c_Mod_ran X a ν σ τ s (by first | omega | (simp only [rn1]; omega)) 12) (by first | decide | omega) rfl rfl (Nat.le_of_ble_eq_true rfl) (Nat.le_of_ble_eq_true rfl) (Nat.le_of_ble_eq_true rfl) 0 rfl rfl rfl rfl 89 rfl d_Mod_tells_86 ?_
    refine r_aload_n rfl 90 rfl d_Mod_tells_89 ?_
    refine r_iload_n rfl 91 rfl d_Mod_tells_90 ?_
    refine r_aload_n rfl 92 rfl d_Mod_tells_91 ?_
    refine r_getf (v := .ref (a 1)) gf_Mod_9 0 rfl rfl 95 rfl d_Mod_tells_92 ?_
    refine r_iload_n rfl 96 rfl d_Mod_tells_95 ?_
    refine r_iald 1 rfl p rfl (by omega) (by omega) 97 rfl d_Mod_tells_96 ?_
    refine r_topi (nI K) hK ?_
    refine r_iload_n rfl 98 rfl d_Mod_tells_97 ?_
    refine r_callVA1 (st2 := [.int ((le p K v 7 K x (rnT s 12)).1)]) (w2 := MW X a (u1 ν 36 ((le p K v 7 K x (rnT s 12)).2).1) (u2 σ 37 ((le p K v 7 K x (rnT s 12)).2).2) τ) lk_Mod_lets ln_Mod_339 (c_Mod_lets X a ν σ τ p v hkp hv K hK hK6 7 K x (rnT s 12) (by omega) (by omega) (by first | (simp only [rn1]; omega) | (have := te_cnt p K v fu 0 x (rnT s 40); simp only [rn1] at this; omega))) (by first | decide | omega) rfl rfl (Nat.le_of_ble_eq_true rfl) (Nat.le_of_ble_eq_true rfl) (Nat.le_of_ble_eq_true rfl) 0 rfl rfl rfl rfl 101 rfl d_Mod_tells_98 ?_
    refine r_iconst (nI 2) rfl 102 rfl d_Mod_tells_101 ?_
    refine r_imul 103 rfl d_Mod_tells_102 ?_
    exact r_iret rfl (Nat.zero_le _) (Nat.zero_le _) d_Mod_tells_103 (by rw [← hQ]; exact ⟨rfl, rfl⟩)
  by_cases h1_3 : nI k = 3
  · refine r_lookup 36 d_Mod_tells_1 (by decide) (by rw [h1_3]; try rfl) rfl ?_
    obtain rfl : k = 3 := (nI_eq (by omega) (by decide)).mp h1_3
    refine r_aload_n rfl 37 rfl d_Mod_tells_36 ?_
    refine r_bipush (nI 40) rfl 39 rfl d_Mod_tells_37 ?_
    refine r_callVA1 (st2 := []) (w2 := MW X a (u1 ν 36 (rnT s 40).1) (u2 σ 37 (rnT s 40).2) τ) lk_Mod_ran ln_Mod_329 (c_Mod_ran X a ν σ τ s (by first | omega | (simp only [rn1]; omega)) 40) (by first | decide | omega) rfl rfl (Nat.le_of_ble_eq_true rfl) (Nat.le_of_ble_eq_true rfl) (Nat.le_of_ble_eq_true rfl) 0 rfl rfl rfl rfl 42 rfl d_Mod_tells_39 ?_
    refine r_aload_n rfl 43 rfl d_Mod_tells_42 ?_
    refine r_iload_n rfl 44 rfl d_Mod_tells_43 ?_
    refine r_iconst (nI 0) rfl 45 rfl d_Mod_tells_44 ?_
    refine r_iload_n rfl 46 rfl d_Mod_tells_45 ?_
    refine r_callVA1 (st2 := [.int ((te p K v fu 0 x (rnT s 40)).1)]) (w2 := MW X a (u1 ν 36 ((te p K v fu 0 x (rnT s 40)).2).1) (u2 σ 37 ((te p K v fu 0 x (rnT s 40)).2).2) τ) lk_Mod_tells ln_Mod_342 (ihf 0 x (rnT s 40) (by first | omega | (simp only [abv]; (repeat' split) <;> omega)) (by first | omega | (simp only [abv]; (repeat' split) <;> omega)) (by first | omega | (simp only [rn1]; omega))) (by first | decide | omega) rfl rfl (Nat.le_of_ble_eq_true rfl) (Nat.le_of_ble_eq_true rfl) (Nat.le_of_ble_eq_true rfl) 0 rfl rfl rfl rfl 49 rfl d_Mod_tells_46 ?_
    refine r_istore (ls2 := [some (.ref (a 0)), some (.int (nI p)), some (.int (nI 3)), some (.int x), some (.int ((te p K v fu 0 x (rnT s 40)).1))]) 51 rfl d_Mod_tells_49 (by decide) rfl rfl ?_
    refine r_iload rfl 53 rfl d_Mod_tells_51 ?_
    refine r_aload_n rfl 54 rfl d_Mod_tells_53 ?_
    refine r_iload_n rfl 55 rfl d_Mod_tells_54 ?_
    refine r_aload_n rfl 56 rfl d_Mod_tells_55 ?_
    refine r_getf (v := .ref (a 1)) gf_Mod_9 0 rfl rfl 59 rfl d_Mod_tells_56 ?_
    refine r_iload_n rfl 60 rfl d_Mod_tells_59 ?_
    refine r_iald 1 rfl p rfl (by omega) (by omega) 61 rfl d_Mod_tells_60 ?_
    refine r_topi (nI K) hK ?_
    refine r_iconst (nI 1) rfl 62 rfl d_Mod_tells_61 ?_
    refine r_callVA1 (st2 := [.int ((le p K v 7 K (nI 1) ((te p K v fu 0 x (rnT s 40)).2)).1), .int ((te p K v fu 0 x (rnT s 40)).1)]) (w2 := MW X a (u1 ν 36 ((le p K v 7 K (nI 1) ((te p K v fu 0 x (rnT s 40)).2)).2).1) (u2 σ 37 ((le p K v 7 K (nI 1) ((te p K v fu 0 x (rnT s 40)).2)).2).2) τ) lk_Mod_lets ln_Mod_339 (c_Mod_lets X a ν σ τ p v hkp hv K hK hK6 7 K (nI 1) ((te p K v fu 0 x (rnT s 40)).2) (by omega) (by omega) (by first | (simp only [rn1]; omega) | (have := te_cnt p K v fu 0 x (rnT s 40); simp only [rn1] at this; omega))) (by first | decide | omega) rfl rfl (Nat.le_of_ble_eq_true rfl) (Nat.le_of_ble_eq_true rfl) (Nat.le_of_ble_eq_true rfl) 0 rfl rfl rfl rfl 65 rfl d_Mod_tells_62 ?_
    refine r_iadd 66 rfl d_Mod_tells_65 ?_
    exact r_iret rfl (Nat.zero_le _) (Nat.zero_le _) d_Mod_tells_66 (by rw [← hQ]; exact ⟨rfl, rfl⟩)
  by_cases h1_5 : nI k = 5
  · refine r_lookup 67 d_Mod_tells_1 (by decide) (by rw [h1_5]; try rfl) rfl ?_
    obtain rfl : k = 5 := (nI_eq (by omega) (by decide)).mp h1_5
    refine r_aload_n rfl 68 rfl d_Mod_tells_67 ?_
    refine r_bipush (nI 60) rfl 70 rfl d_Mod_tells_68 ?_
    refine r_callVA1 (st2 := []) (w2 := MW X a (u1 ν 36 (rnT s 60).1) (u2 σ 37 (rnT s 60).2) τ) lk_Mod_ran ln_Mod_329 (c_Mod_ran X a ν σ τ s (by first | omega | (simp only [rn1]; omega)) 60) (by first | decide | omega) rfl rfl (Nat.le_of_ble_eq_true rfl) (Nat.le_of_ble_eq_true rfl) (Nat.le_of_ble_eq_true rfl) 0 rfl rfl rfl rfl 73 rfl d_Mod_tells_70 ?_
    refine r_aload_n rfl 74 rfl d_Mod_tells_73 ?_
    refine r_iload_n rfl 75 rfl d_Mod_tells_74 ?_
    refine r_iconst (nI 2) rfl 76 rfl d_Mod_tells_75 ?_
    refine r_iload_n rfl 77 rfl d_Mod_tells_76 ?_
    refine r_iload_n rfl 78 rfl d_Mod_tells_77 ?_
    refine r_isub 79 rfl d_Mod_tells_78 ?_
    refine r_callVA1 (st2 := [.int ((te p K v fu 2 (x - (nI p)) (rnT s 60)).1)]) (w2 := MW X a (u1 ν 36 ((te p K v fu 2 (x - (nI p)) (rnT s 60)).2).1) (u2 σ 37 ((te p K v fu 2 (x - (nI p)) (rnT s 60)).2).2) τ) lk_Mod_tells ln_Mod_342 (ihf 2 (x - (nI p)) (rnT s 60) (by first | omega | (simp only [abv]; (repeat' split) <;> omega)) (by first | omega | (simp only [abv]; (repeat' split) <;> omega)) (by first | omega | (simp only [rn1]; omega))) (by first | decide | omega) rfl rfl (Nat.le_of_ble_eq_true rfl) (Nat.le_of_ble_eq_true rfl) (Nat.le_of_ble_eq_true rfl) 0 rfl rfl rfl rfl 82 rfl d_Mod_tells_79 ?_
    exact r_iret rfl (Nat.zero_le _) (Nat.zero_le _) d_Mod_tells_82 (by rw [← hQ]; exact ⟨rfl, rfl⟩)
  refine r_lookup (off := 103) 104 d_Mod_tells_1 (by decide) (by rw [lv_osw h1_0 (by decide), lv_osw h1_3 (by decide), lv_osw h1_5 (by decide)]; rfl) rfl ?_
  have z0 : ¬ k = 0 := fun z => h1_0 (by rw [z]; rfl)
  have z3 : ¬ k = 3 := fun z => h1_3 (by rw [z]; rfl)
  have z5 : ¬ k = 5 := fun z => h1_5 (by rw [z]; rfl)
  refine r_aload_n rfl 105 rfl d_Mod_tells_104 ?_
  refine r_iload_n rfl 106 rfl d_Mod_tells_105 ?_
  refine r_iload_n rfl 107 rfl d_Mod_tells_106 ?_
  refine r_callS1 (st2 := [.int (nI (abv k)), .int (nI p), .ref (a 0)]) (w2 := MW X a (u1 ν 36 s.1) (u2 σ 37 s.2) τ) lk_Mod_above ln_Mod_336 (c_Mod_above X k (by omega)) (by first | decide | omega) rfl rfl (Nat.le_of_ble_eq_true rfl) (Nat.le_of_ble_eq_true rfl) (Nat.le_of_ble_eq_true rfl) [] rfl rfl rfl rfl rfl 110 rfl d_Mod_tells_107 ?_
  refine r_iload_n rfl 111 rfl d_Mod_tells_110 ?_
  refine r_callVA1 (st2 := [.int ((te p K v fu (abv k) x s).1)]) (w2 := MW X a (u1 ν 36 ((te p K v fu (abv k) x s).2).1) (u2 σ 37 ((te p K v fu (abv k) x s).2).2) τ) lk_Mod_tells ln_Mod_342 (ihf (abv k) x s (by first | omega | (simp only [abv]; (repeat' split) <;> omega)) (by first | omega | (simp only [abv]; (repeat' split) <;> omega)) (by first | omega | (simp only [rn1]; omega))) (by first | decide | omega) rfl rfl (Nat.le_of_ble_eq_true rfl) (Nat.le_of_ble_eq_true rfl) (Nat.le_of_ble_eq_true rfl) 0 rfl rfl rfl rfl 114 rfl d_Mod_tells_111 ?_
  exact r_iret rfl (Nat.zero_le _) (Nat.zero_le _) d_Mod_tells_114 (by rw [← hQ]; rw [te, if_neg z0, if_neg z3, if_neg z5]; exact ⟨rfl, rfl⟩)
