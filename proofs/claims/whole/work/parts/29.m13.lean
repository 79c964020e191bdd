def M_Mod_force : XM := (⟨"HandshakeBindsModel", "force", "(IIII)I"⟩, prog_11_method_29_code, 8, (some .int))
theorem d_Mod_force_0 : decode M_Mod_force.2.1 0 = .ok (.iload_n 3, 1) := by decide +kernel
theorem d_Mod_force_1 : decode M_Mod_force.2.1 1 = .ok (.istore 5, 2) := by decide +kernel
theorem d_Mod_force_3 : decode M_Mod_force.2.1 3 = .ok (.iconst 0, 1) := by decide +kernel
theorem d_Mod_force_4 : decode M_Mod_force.2.1 4 = .ok (.istore 6, 2) := by decide +kernel
theorem d_Mod_force_6 : decode M_Mod_force.2.1 6 = .ok (.aload_n 0, 1) := by decide +kernel
theorem d_Mod_force_7 : decode M_Mod_force.2.1 7 = .ok (.getfield 107, 3) := by decide +kernel
theorem d_Mod_force_10 : decode M_Mod_force.2.1 10 = .ok (.iconst (-1), 1) := by decide +kernel
theorem d_Mod_force_11 : decode M_Mod_force.2.1 11 = .ok (.if_icmp .eq 93, 3) := by decide +kernel
theorem d_Mod_force_104 : decode M_Mod_force.2.1 104 = .ok (.iload 5, 2) := by decide +kernel
theorem d_Mod_force_106 : decode M_Mod_force.2.1 106 = .ok (.ireturn, 1) := by decide +kernel
theorem d_Mod_force_14 : decode M_Mod_force.2.1 14 = .ok (.iload 6, 2) := by decide +kernel
theorem d_Mod_force_16 : decode M_Mod_force.2.1 16 = .ok (.aload_n 0, 1) := by decide +kernel
theorem d_Mod_force_17 : decode M_Mod_force.2.1 17 = .ok (.getfield 30, 3) := by decide +kernel
theorem gf_Mod_30 : GF "HandshakeBindsModel" 30 9 15 := ⟨_, _, _, rfl, by decide, i_Mod, inTB 865 (by decide +kernel) rfl⟩
theorem d_Mod_force_20 : decode M_Mod_force.2.1 20 = .ok (.aload_n 0, 1) := by decide +kernel
theorem d_Mod_force_21 : decode M_Mod_force.2.1 21 = .ok (.getfield 107, 3) := by decide +kernel
theorem d_Mod_force_24 : decode M_Mod_force.2.1 24 = .ok (.iaload, 1) := by decide +kernel
theorem d_Mod_force_25 : decode M_Mod_force.2.1 25 = .ok (.if_icmp .ge 79, 3) := by decide +kernel
theorem d_Mod_force_28 : decode M_Mod_force.2.1 28 = .ok (.bipush 10, 2) := by decide +kernel
theorem d_Mod_force_30 : decode M_Mod_force.2.1 30 = .ok (.aload_n 0, 1) := by decide +kernel
theorem d_Mod_force_31 : decode M_Mod_force.2.1 31 = .ok (.getfield 107, 3) := by decide +kernel
theorem d_Mod_force_34 : decode M_Mod_force.2.1 34 = .ok (.imul, 1) := by decide +kernel
theorem d_Mod_force_35 : decode M_Mod_force.2.1 35 = .ok (.iload 6, 2) := by decide +kernel
theorem d_Mod_force_37 : decode M_Mod_force.2.1 37 = .ok (.iadd, 1) := by decide +kernel
theorem d_Mod_force_38 : decode M_Mod_force.2.1 38 = .ok (.istore 7, 2) := by decide +kernel
theorem d_Mod_force_40 : decode M_Mod_force.2.1 40 = .ok (.aload_n 0, 1) := by decide +kernel
theorem d_Mod_force_41 : decode M_Mod_force.2.1 41 = .ok (.getfield 33, 3) := by decide +kernel
theorem gf_Mod_33 : GF "HandshakeBindsModel" 33 9 16 := ⟨_, _, _, rfl, by decide, i_Mod, inTB 866 (by decide +kernel) rfl⟩
theorem d_Mod_force_44 : decode M_Mod_force.2.1 44 = .ok (.iload 7, 2) := by decide +kernel
theorem d_Mod_force_46 : decode M_Mod_force.2.1 46 = .ok (.iaload, 1) := by decide +kernel
theorem d_Mod_force_47 : decode M_Mod_force.2.1 47 = .ok (.iconst 2, 1) := by decide +kernel
theorem d_Mod_force_48 : decode M_Mod_force.2.1 48 = .ok (.if_icmp .ge 50, 3) := by decide +kernel
theorem d_Mod_force_98 : decode M_Mod_force.2.1 98 = .ok (.iinc 6 1, 3) := by decide +kernel
theorem d_Mod_force_101 : decode M_Mod_force.2.1 101 = .ok (.goto (-95), 3) := by decide +kernel
theorem d_Mod_force_51 : decode M_Mod_force.2.1 51 = .ok (.aload_n 0, 1) := by decide +kernel
theorem d_Mod_force_52 : decode M_Mod_force.2.1 52 = .ok (.iload_n 1, 1) := by decide +kernel
theorem d_Mod_force_53 : decode M_Mod_force.2.1 53 = .ok (.iload_n 2, 1) := by decide +kernel
theorem d_Mod_force_54 : decode M_Mod_force.2.1 54 = .ok (.iload_n 3, 1) := by decide +kernel
theorem d_Mod_force_55 : decode M_Mod_force.2.1 55 = .ok (.iload 4, 2) := by decide +kernel
theorem d_Mod_force_57 : decode M_Mod_force.2.1 57 = .ok (.iload 7, 2) := by decide +kernel
theorem d_Mod_force_59 : decode M_Mod_force.2.1 59 = .ok (.invokevirtual 226, 3) := by decide +kernel
theorem ln_Mod_226 : Cond.methodLink "HandshakeBindsModel" 226 M_Mod_isTrue.1 ∈ TB := inTB 1171 (by decide +kernel) rfl
theorem lk_Mod_isTrue : LVt M_Mod_isTrue 5 := ⟨⟨inTB 72 (by decide +kernel) rfl, inTB 1174 (by decide +kernel) rfl, ⟨by decide, by decide, by decide +kernel⟩, by decide⟩, inTB 1173 (by decide +kernel) rfl, inTB 40 (by decide +kernel) rfl⟩
theorem d_Mod_force_62 : decode M_Mod_force.2.1 62 = .ok (.ifCond .eq 36, 3) := by decide +kernel
theorem d_Mod_force_65 : decode M_Mod_force.2.1 65 = .ok (.iload 5, 2) := by decide +kernel
theorem d_Mod_force_67 : decode M_Mod_force.2.1 67 = .ok (.aload_n 0, 1) := by decide +kernel
theorem d_Mod_force_68 : decode M_Mod_force.2.1 68 = .ok (.getfield 33, 3) := by decide +kernel
theorem d_Mod_force_71 : decode M_Mod_force.2.1 71 = .ok (.iload 7, 2) := by decide +kernel
theorem d_Mod_force_73 : decode M_Mod_force.2.1 73 = .ok (.iaload, 1) := by decide +kernel
theorem d_Mod_force_74 : decode M_Mod_force.2.1 74 = .ok (.ifCond .ne 13, 3) := by decide +kernel
theorem d_Mod_force_87 : decode M_Mod_force.2.1 87 = .ok (.aload_n 0, 1) := by decide +kernel
theorem d_Mod_force_88 : decode M_Mod_force.2.1 88 = .ok (.getfield 36, 3) := by decide +kernel
theorem gf_Mod_36 : GF "HandshakeBindsModel" 36 9 17 := ⟨_, _, _, rfl, by decide, i_Mod, inTB 867 (by decide +kernel) rfl⟩
theorem d_Mod_force_91 : decode M_Mod_force.2.1 91 = .ok (.iload 7, 2) := by decide +kernel
theorem d_Mod_force_93 : decode M_Mod_force.2.1 93 = .ok (.iaload, 1) := by decide +kernel
theorem d_Mod_force_94 : decode M_Mod_force.2.1 94 = .ok (.ineg, 1) := by decide +kernel
theorem d_Mod_force_95 : decode M_Mod_force.2.1 95 = .ok (.iadd, 1) := by decide +kernel
theorem d_Mod_force_96 : decode M_Mod_force.2.1 96 = .ok (.istore 5, 2) := by decide +kernel
theorem d_Mod_force_77 : decode M_Mod_force.2.1 77 = .ok (.aload_n 0, 1) := by decide +kernel
theorem d_Mod_force_78 : decode M_Mod_force.2.1 78 = .ok (.getfield 36, 3) := by decide +kernel
theorem d_Mod_force_81 : decode M_Mod_force.2.1 81 = .ok (.iload 7, 2) := by decide +kernel
theorem d_Mod_force_83 : decode M_Mod_force.2.1 83 = .ok (.iaload, 1) := by decide +kernel
theorem d_Mod_force_84 : decode M_Mod_force.2.1 84 = .ok (.goto 11, 3) := by decide +kernel
def M_Mod_bind : XM := (⟨"HandshakeBindsModel", "bind", "()I"⟩, prog_11_method_30_code, 3, (some .int))
theorem d_Mod_bind_0 : decode M_Mod_bind.2.1 0 = .ok (.iconst 5, 1) := by decide +kernel
theorem d_Mod_bind_1 : decode M_Mod_bind.2.1 1 = .ok (.istore_n 1, 1) := by decide +kernel
theorem d_Mod_bind_2 : decode M_Mod_bind.2.1 2 = .ok (.iconst 0, 1) := by decide +kernel
theorem d_Mod_bind_3 : decode M_Mod_bind.2.1 3 = .ok (.istore_n 2, 1) := by decide +kernel
theorem d_Mod_bind_4 : decode M_Mod_bind.2.1 4 = .ok (.aload_n 0, 1) := by decide +kernel
theorem d_Mod_bind_5 : decode M_Mod_bind.2.1 5 = .ok (.getfield 107, 3) := by decide +kernel
theorem d_Mod_bind_8 : decode M_Mod_bind.2.1 8 = .ok (.iconst (-1), 1) := by decide +kernel
theorem d_Mod_bind_9 : decode M_Mod_bind.2.1 9 = .ok (.if_icmp .eq 55, 3) := by decide +kernel
theorem d_Mod_bind_64 : decode M_Mod_bind.2.1 64 = .ok (.iload_n 1, 1) := by decide +kernel
theorem d_Mod_bind_65 : decode M_Mod_bind.2.1 65 = .ok (.ireturn, 1) := by decide +kernel
theorem d_Mod_bind_12 : decode M_Mod_bind.2.1 12 = .ok (.iload_n 2, 1) := by decide +kernel
theorem d_Mod_bind_13 : decode M_Mod_bind.2.1 13 = .ok (.aload_n 0, 1) := by decide +kernel
theorem d_Mod_bind_14 : decode M_Mod_bind.2.1 14 = .ok (.getfield 30, 3) := by decide +kernel
theorem d_Mod_bind_17 : decode M_Mod_bind.2.1 17 = .ok (.aload_n 0, 1) := by decide +kernel
theorem d_Mod_bind_18 : decode M_Mod_bind.2.1 18 = .ok (.getfield 107, 3) := by decide +kernel
theorem d_Mod_bind_21 : decode M_Mod_bind.2.1 21 = .ok (.iaload, 1) := by decide +kernel
theorem d_Mod_bind_22 : decode M_Mod_bind.2.1 22 = .ok (.if_icmp .ge 42, 3) := by decide +kernel
theorem d_Mod_bind_25 : decode M_Mod_bind.2.1 25 = .ok (.aload_n 0, 1) := by decide +kernel
theorem d_Mod_bind_26 : decode M_Mod_bind.2.1 26 = .ok (.getfield 33, 3) := by decide +kernel
theorem d_Mod_bind_29 : decode M_Mod_bind.2.1 29 = .ok (.bipush 10, 2) := by decide +kernel
theorem d_Mod_bind_31 : decode M_Mod_bind.2.1 31 = .ok (.aload_n 0, 1) := by decide +kernel
theorem d_Mod_bind_32 : decode M_Mod_bind.2.1 32 = .ok (.getfield 107, 3) := by decide +kernel
theorem d_Mod_bind_35 : decode M_Mod_bind.2.1 35 = .ok (.imul, 1) := by decide +kernel
theorem d_Mod_bind_36 : decode M_Mod_bind.2.1 36 = .ok (.iload_n 2, 1) := by decide +kernel
theorem d_Mod_bind_37 : decode M_Mod_bind.2.1 37 = .ok (.iadd, 1) := by decide +kernel
theorem d_Mod_bind_38 : decode M_Mod_bind.2.1 38 = .ok (.iaload, 1) := by decide +kernel
theorem d_Mod_bind_39 : decode M_Mod_bind.2.1 39 = .ok (.iconst 2, 1) := by decide +kernel
theorem d_Mod_bind_40 : decode M_Mod_bind.2.1 40 = .ok (.if_icmp .ne 18, 3) := by decide +kernel
theorem d_Mod_bind_58 : decode M_Mod_bind.2.1 58 = .ok (.iinc 2 1, 3) := by decide +kernel
theorem d_Mod_bind_61 : decode M_Mod_bind.2.1 61 = .ok (.goto (-57), 3) := by decide +kernel
theorem d_Mod_bind_43 : decode M_Mod_bind.2.1 43 = .ok (.aload_n 0, 1) := by decide +kernel
theorem d_Mod_bind_44 : decode M_Mod_bind.2.1 44 = .ok (.getfield 36, 3) := by decide +kernel
theorem d_Mod_bind_47 : decode M_Mod_bind.2.1 47 = .ok (.bipush 10, 2) := by decide +kernel
theorem d_Mod_bind_49 : decode M_Mod_bind.2.1 49 = .ok (.aload_n 0, 1) := by decide +kernel
theorem d_Mod_bind_50 : decode M_Mod_bind.2.1 50 = .ok (.getfield 107, 3) := by decide +kernel
theorem d_Mod_bind_53 : decode M_Mod_bind.2.1 53 = .ok (.imul, 1) := by decide +kernel
theorem d_Mod_bind_54 : decode M_Mod_bind.2.1 54 = .ok (.iload_n 2, 1) := by decide +kernel
theorem d_Mod_bind_55 : decode M_Mod_bind.2.1 55 = .ok (.iadd, 1) := by decide +kernel
theorem d_Mod_bind_56 : decode M_Mod_bind.2.1 56 = .ok (.iaload, 1) := by decide +kernel
theorem d_Mod_bind_57 : decode M_Mod_bind.2.1 57 = .ok (.istore_n 1, 1) := by decide +kernel
def M_Mod_readBy : XM := (⟨"HandshakeBindsModel", "readBy", "(IIII)I"⟩, prog_11_method_31_code, 7, (some .int))
theorem d_Mod_readBy_0 : decode M_Mod_readBy.2.1 0 = .ok (.aload_n 0, 1) := by decide +kernel
theorem d_Mod_readBy_1 : decode M_Mod_readBy.2.1 1 = .ok (.iload_n 1, 1) := by decide +kernel
theorem d_Mod_readBy_2 : decode M_Mod_readBy.2.1 2 = .ok (.iload_n 2, 1) := by decide +kernel
theorem d_Mod_readBy_3 : decode M_Mod_readBy.2.1 3 = .ok (.iload_n 3, 1) := by decide +kernel
theorem d_Mod_readBy_4 : decode M_Mod_readBy.2.1 4 = .ok (.iload 4, 2) := by decide +kernel
theorem d_Mod_readBy_6 : decode M_Mod_readBy.2.1 6 = .ok (.invokevirtual 230, 3) := by decide +kernel
theorem ln_Mod_230 : Cond.methodLink "HandshakeBindsModel" 230 M_Mod_force.1 ∈ TB := inTB 1167 (by decide +kernel) rfl
theorem lk_Mod_force : LVt M_Mod_force 4 := ⟨⟨inTB 72 (by decide +kernel) rfl, inTB 1170 (by decide +kernel) rfl, ⟨by decide, by decide, by decide +kernel⟩, by decide⟩, inTB 1169 (by decide +kernel) rfl, inTB 39 (by decide +kernel) rfl⟩
theorem d_Mod_readBy_9 : decode M_Mod_readBy.2.1 9 = .ok (.istore 5, 2) := by decide +kernel
theorem d_Mod_readBy_11 : decode M_Mod_readBy.2.1 11 = .ok (.iload 5, 2) := by decide +kernel
theorem d_Mod_readBy_13 : decode M_Mod_readBy.2.1 13 = .ok (.istore 6, 2) := by decide +kernel
theorem d_Mod_readBy_171 : decode M_Mod_readBy.2.1 171 = .ok (.iload 6, 2) := by decide +kernel
theorem d_Mod_readBy_173 : decode M_Mod_readBy.2.1 173 = .ok (.aload_n 0, 1) := by decide +kernel
theorem d_Mod_readBy_174 : decode M_Mod_readBy.2.1 174 = .ok (.invokevirtual 234, 3) := by decide +kernel
theorem ln_Mod_234 : Cond.methodLink "HandshakeBindsModel" 234 M_Mod_bind.1 ∈ TB := inTB 1179 (by decide +kernel) rfl
theorem lk_Mod_bind : LVt M_Mod_bind 0 := ⟨⟨inTB 72 (by decide +kernel) rfl, inTB 1182 (by decide +kernel) rfl, ⟨by decide, by decide, by decide +kernel⟩, by decide⟩, inTB 1181 (by decide +kernel) rfl, inTB 42 (by decide +kernel) rfl⟩
theorem d_Mod_readBy_177 : decode M_Mod_readBy.2.1 177 = .ok (.if_icmp .ge 7, 3) := by decide +kernel
theorem d_Mod_readBy_184 : decode M_Mod_readBy.2.1 184 = .ok (.iload 6, 2) := by decide +kernel
theorem d_Mod_readBy_186 : decode M_Mod_readBy.2.1 186 = .ok (.ireturn, 1) := by decide +kernel
theorem d_Mod_readBy_180 : decode M_Mod_readBy.2.1 180 = .ok (.iconst 0, 1) := by decide +kernel
theorem d_Mod_readBy_181 : decode M_Mod_readBy.2.1 181 = .ok (.goto 5, 3) := by decide +kernel
theorem d_Mod_readBy_15 : decode M_Mod_readBy.2.1 15 = .ok (.aload_n 0, 1) := by decide +kernel
theorem d_Mod_readBy_16 : decode M_Mod_readBy.2.1 16 = .ok (.getfield 9, 3) := by decide +kernel
theorem d_Mod_readBy_19 : decode M_Mod_readBy.2.1 19 = .ok (.iload_n 1, 1) := by decide +kernel
theorem d_Mod_readBy_20 : decode M_Mod_readBy.2.1 20 = .ok (.iaload, 1) := by decide +kernel
theorem d_Mod_readBy_21 : decode M_Mod_readBy.2.1 21 = .ok (.tableswitch 150 1 6 #[39, 55, 68, 77, 107, 127], 39) := by decide +kernel
theorem d_Mod_readBy_60 : decode M_Mod_readBy.2.1 60 = .ok (.iload 5, 2) := by decide +kernel
theorem d_Mod_readBy_62 : decode M_Mod_readBy.2.1 62 = .ok (.iconst 2, 1) := by decide +kernel
theorem d_Mod_readBy_63 : decode M_Mod_readBy.2.1 63 = .ok (.aload_n 0, 1) := by decide +kernel
theorem d_Mod_readBy_64 : decode M_Mod_readBy.2.1 64 = .ok (.getfield 15, 3) := by decide +kernel
theorem d_Mod_readBy_67 : decode M_Mod_readBy.2.1 67 = .ok (.iload_n 1, 1) := by decide +kernel
theorem d_Mod_readBy_68 : decode M_Mod_readBy.2.1 68 = .ok (.iaload, 1) := by decide +kernel
theorem d_Mod_readBy_69 : decode M_Mod_readBy.2.1 69 = .ok (.imul, 1) := by decide +kernel
theorem d_Mod_readBy_70 : decode M_Mod_readBy.2.1 70 = .ok (.iadd, 1) := by decide +kernel
theorem d_Mod_readBy_71 : decode M_Mod_readBy.2.1 71 = .ok (.istore 6, 2) := by decide +kernel
theorem d_Mod_readBy_73 : decode M_Mod_readBy.2.1 73 = .ok (.goto 98, 3) := by decide +kernel
theorem d_Mod_readBy_76 : decode M_Mod_readBy.2.1 76 = .ok (.iload 5, 2) := by decide +kernel
theorem d_Mod_readBy_78 : decode M_Mod_readBy.2.1 78 = .ok (.iload 5, 2) := by decide +kernel
theorem d_Mod_readBy_80 : decode M_Mod_readBy.2.1 80 = .ok (.bipush 6, 2) := by decide +kernel
theorem d_Mod_readBy_82 : decode M_Mod_readBy.2.1 82 = .ok (.idiv, 1) := by decide +kernel
theorem d_Mod_readBy_83 : decode M_Mod_readBy.2.1 83 = .ok (.isub, 1) := by decide +kernel
theorem d_Mod_readBy_84 : decode M_Mod_readBy.2.1 84 = .ok (.istore 6, 2) := by decide +kernel
theorem d_Mod_readBy_86 : decode M_Mod_readBy.2.1 86 = .ok (.goto 85, 3) := by decide +kernel
theorem d_Mod_readBy_89 : decode M_Mod_readBy.2.1 89 = .ok (.iload 5, 2) := by decide +kernel
theorem d_Mod_readBy_91 : decode M_Mod_readBy.2.1 91 = .ok (.iconst 2, 1) := by decide +kernel
theorem d_Mod_readBy_92 : decode M_Mod_readBy.2.1 92 = .ok (.idiv, 1) := by decide +kernel
theorem d_Mod_readBy_93 : decode M_Mod_readBy.2.1 93 = .ok (.istore 6, 2) := by decide +kernel
theorem d_Mod_readBy_95 : decode M_Mod_readBy.2.1 95 = .ok (.goto 76, 3) := by decide +kernel
theorem d_Mod_readBy_98 : decode M_Mod_readBy.2.1 98 = .ok (.iload 4, 2) := by decide +kernel
theorem d_Mod_readBy_100 : decode M_Mod_readBy.2.1 100 = .ok (.bipush 7, 2) := by decide +kernel
theorem d_Mod_readBy_102 : decode M_Mod_readBy.2.1 102 = .ok (.irem, 1) := by decide +kernel
theorem d_Mod_readBy_103 : decode M_Mod_readBy.2.1 103 = .ok (.bipush 6, 2) := by decide +kernel
theorem d_Mod_readBy_105 : decode M_Mod_readBy.2.1 105 = .ok (.if_icmp .ne 7, 3) := by decide +kernel
theorem d_Mod_readBy_112 : decode M_Mod_readBy.2.1 112 = .ok (.iload 5, 2) := by decide +kernel
theorem d_Mod_readBy_114 : decode M_Mod_readBy.2.1 114 = .ok (.iconst 2, 1) := by decide +kernel
theorem d_Mod_readBy_115 : decode M_Mod_readBy.2.1 115 = .ok (.aload_n 0, 1) := by decide +kernel
theorem d_Mod_readBy_116 : decode M_Mod_readBy.2.1 116 = .ok (.getfield 15, 3) := by decide +kernel
theorem d_Mod_readBy_119 : decode M_Mod_readBy.2.1 119 = .ok (.iload_n 1, 1) := by decide +kernel
theorem d_Mod_readBy_120 : decode M_Mod_readBy.2.1 120 = .ok (.iaload, 1) := by decide +kernel
theorem d_Mod_readBy_121 : decode M_Mod_readBy.2.1 121 = .ok (.imul, 1) := by decide +kernel
theorem d_Mod_readBy_122 : decode M_Mod_readBy.2.1 122 = .ok (.iadd, 1) := by decide +kernel
theorem d_Mod_readBy_123 : decode M_Mod_readBy.2.1 123 = .ok (.istore 6, 2) := by decide +kernel
theorem d_Mod_readBy_125 : decode M_Mod_readBy.2.1 125 = .ok (.goto 46, 3) := by decide +kernel
theorem d_Mod_readBy_108 : decode M_Mod_readBy.2.1 108 = .ok (.iconst 0, 1) := by decide +kernel
theorem d_Mod_readBy_109 : decode M_Mod_readBy.2.1 109 = .ok (.goto 14, 3) := by decide +kernel
theorem d_Mod_readBy_128 : decode M_Mod_readBy.2.1 128 = .ok (.iload 5, 2) := by decide +kernel
theorem d_Mod_readBy_130 : decode M_Mod_readBy.2.1 130 = .ok (.iload 5, 2) := by decide +kernel
theorem d_Mod_readBy_132 : decode M_Mod_readBy.2.1 132 = .ok (.bipush 6, 2) := by decide +kernel
theorem d_Mod_readBy_134 : decode M_Mod_readBy.2.1 134 = .ok (.idiv, 1) := by decide +kernel
theorem d_Mod_readBy_135 : decode M_Mod_readBy.2.1 135 = .ok (.isub, 1) := by decide +kernel
theorem d_Mod_readBy_136 : decode M_Mod_readBy.2.1 136 = .ok (.aload_n 0, 1) := by decide +kernel
theorem d_Mod_readBy_137 : decode M_Mod_readBy.2.1 137 = .ok (.getfield 15, 3) := by decide +kernel
theorem d_Mod_readBy_140 : decode M_Mod_readBy.2.1 140 = .ok (.iload_n 1, 1) := by decide +kernel
theorem d_Mod_readBy_141 : decode M_Mod_readBy.2.1 141 = .ok (.iaload, 1) := by decide +kernel
theorem d_Mod_readBy_142 : decode M_Mod_readBy.2.1 142 = .ok (.isub, 1) := by decide +kernel
theorem d_Mod_readBy_143 : decode M_Mod_readBy.2.1 143 = .ok (.istore 6, 2) := by decide +kernel
theorem d_Mod_readBy_145 : decode M_Mod_readBy.2.1 145 = .ok (.goto 26, 3) := by decide +kernel
theorem d_Mod_readBy_148 : decode M_Mod_readBy.2.1 148 = .ok (.iload 5, 2) := by decide +kernel
theorem d_Mod_readBy_150 : decode M_Mod_readBy.2.1 150 = .ok (.iconst 2, 1) := by decide +kernel
theorem d_Mod_readBy_151 : decode M_Mod_readBy.2.1 151 = .ok (.idiv, 1) := by decide +kernel
theorem d_Mod_readBy_152 : decode M_Mod_readBy.2.1 152 = .ok (.aload_n 0, 1) := by decide +kernel
theorem d_Mod_readBy_153 : decode M_Mod_readBy.2.1 153 = .ok (.getfield 21, 3) := by decide +kernel
theorem d_Mod_readBy_156 : decode M_Mod_readBy.2.1 156 = .ok (.iconst 4, 1) := by decide +kernel
theorem d_Mod_readBy_157 : decode M_Mod_readBy.2.1 157 = .ok (.iload_n 1, 1) := by decide +kernel
theorem d_Mod_readBy_158 : decode M_Mod_readBy.2.1 158 = .ok (.imul, 1) := by decide +kernel
theorem d_Mod_readBy_159 : decode M_Mod_readBy.2.1 159 = .ok (.iload 4, 2) := by decide +kernel
theorem d_Mod_readBy_161 : decode M_Mod_readBy.2.1 161 = .ok (.iconst 4, 1) := by decide +kernel
theorem d_Mod_readBy_162 : decode M_Mod_readBy.2.1 162 = .ok (.irem, 1) := by decide +kernel
theorem d_Mod_readBy_163 : decode M_Mod_readBy.2.1 163 = .ok (.iadd, 1) := by decide +kernel
theorem d_Mod_readBy_164 : decode M_Mod_readBy.2.1 164 = .ok (.iaload, 1) := by decide +kernel
theorem d_Mod_readBy_165 : decode M_Mod_readBy.2.1 165 = .ok (.iadd, 1) := by decide +kernel
theorem d_Mod_readBy_166 : decode M_Mod_readBy.2.1 166 = .ok (.istore 6, 2) := by decide +kernel
theorem d_Mod_readBy_168 : decode M_Mod_readBy.2.1 168 = .ok (.goto 3, 3) := by decide +kernel
theorem c_Mod_force (X : Xn) (a ν : Nat → Nat) (σ : Nat → Nat → Int32) (τ : Nat → Int64) (p q s d : Nat) (hp : p < 6) (hq : q < 6) (hs : s ≤ 99) (hd : d < 100000) (x : EX) (hx : heldX σ x) : Does X 3 M_Mod_force [.ref (a 0), .int (nI p), .int (nI q), .int (nI s), .int (nI d)] (MW X a ν σ τ) 0 0 (fun (vv : Option Value) (ww : va_W) => ∃ t : Nat → Int32, vv = some (.int (fx x p q (σ 1 p) (σ 2 p) s d x.1)) ∧ ww = MW X a ν (u2 σ 22 t) τ) := by
  generalize hQ : (fun (vv : Option Value) (ww : va_W) => ∃ t : Nat → Int32, vv = some (.int (fx x p q (σ 1 p) (σ 2 p) s d x.1)) ∧ ww = MW X a ν (u2 σ 22 t) τ) = Q
  refine Does.go rfl (Nat.le_of_ble_eq_true rfl) [some (.ref (a 0)), some (.int (nI p)), some (.int (nI q)), some (.int (nI s)), some (.int (nI d)), none, none, none] 3 rfl ?_
  refine r_iload_n rfl 1 rfl d_Mod_force_0 ?_
  refine r_istore (ls2 := [some (.ref (a 0)), some (.int (nI p)), some (.int (nI q)), some (.int (nI s)), some (.int (nI d)), some (.int (nI s)), none, none]) 3 rfl d_Mod_force_1 (by decide) rfl rfl ?_
  refine r_iconst (nI 0) rfl 4 rfl d_Mod_force_3 ?_
  refine r_istore (ls2 := [some (.ref (a 0)), some (.int (nI p)), some (.int (nI q)), some (.int (nI s)), some (.int (nI d)), some (.int (nI s)), some (.int (nI 0)), none]) 6 rfl d_Mod_force_4 (by decide) rfl rfl ?_
  have L6_1 : ∀ (f : Nat) (i : Nat) (t : Nat → Int32), (i ≤ x.1) → x.1 - i < f → Runs X 3 M_Mod_force 0 0 Q 6 [some (.ref (a 0)), some (.int (nI p)), some (.int (nI q)), some (.int (nI s)), some (.int (nI d)), some (.int (fx x p q (σ 1 p) (σ 2 p) s d i)), some (.int (nI i)), none] [] 0 0 (MW X a ν (u2 σ 22 (t)) τ) := by
    intro f
    induction f with
    | zero => intro i t hi hmu; exact absurd hmu (Nat.not_lt_zero _)
    | succ f ih2 =>
      intro i t hi hmu
      refine r_aload_n rfl 7 rfl d_Mod_force_6 ?_
      refine r_getf (v := .int (σ 14 0)) gf_Mod_107 0 rfl rfl 10 rfl d_Mod_force_7 ?_
      refine r_iconst ((-1)) rfl 11 rfl d_Mod_force_10 ?_
      refine r_icmp_eq 14 104 rfl rfl d_Mod_force_11 (fun h11 => ?_) (fun h11 => ?_)
      · have hm0 := held_no hx h11
        refine r_iload rfl 106 rfl d_Mod_force_104 ?_
        exact r_iret rfl (Nat.zero_le _) (Nat.zero_le _) d_Mod_force_106 (by rw [← hQ]; exact ⟨t, by rw [show i = x.1 by omega], rfl⟩)
      · refine r_iload rfl 16 rfl d_Mod_force_14 ?_
        refine r_aload_n rfl 17 rfl d_Mod_force_16 ?_
        refine r_getf (v := .ref (a 15)) gf_Mod_30 0 rfl rfl 20 rfl d_Mod_force_17 ?_
        refine r_aload_n rfl 21 rfl d_Mod_force_20 ?_
        refine r_getf (v := .int (σ 14 0)) gf_Mod_107 0 rfl rfl 24 rfl d_Mod_force_21 ?_
        obtain ⟨e, he6, he, hme⟩ := held_yes hx h11
        refine r_topi (nI e) he ?_
        refine r_iald (f := σ 15) 7 rfl e rfl (by omega) (by omega) 25 rfl d_Mod_force_24 ?_
        have hm10 := hx.1.1
        refine r_topi (nI x.1) (hme.1) ?_
        refine r_icmp_geN i x.1 (by omega) (by omega) 28 104 rfl rfl d_Mod_force_25 (fun h25 => ?_) (fun h25 => ?_)
        · refine r_iload rfl 106 rfl d_Mod_force_104 ?_
          exact r_iret rfl (Nat.zero_le _) (Nat.zero_le _) d_Mod_force_106 (by rw [← hQ]; exact ⟨t, by rw [show i = x.1 by omega], rfl⟩)
        · refine r_bipush (nI 10) rfl 30 rfl d_Mod_force_28 ?_
          refine r_aload_n rfl 31 rfl d_Mod_force_30 ?_
          refine r_getf (v := .int (σ 14 0)) gf_Mod_107 0 rfl rfl 34 rfl d_Mod_force_31 ?_
          refine r_topi (nI e) he ?_
          refine r_imul 35 rfl d_Mod_force_34 ?_
          refine r_topi (nI (10 * e)) (pk_mul _ _) ?_
          refine r_iload rfl 37 rfl d_Mod_force_35 ?_
          refine r_iadd 38 rfl d_Mod_force_37 ?_
          refine r_topi (nI ((10 * e) + i)) (nI_add _ _) ?_
          obtain ⟨hwd, hnm, bg, hbg, hln, hbl, htk⟩ := hme.2 i h25
          have hoi := hx.1.2 i h25
          refine r_istore (ls2 := [some (.ref (a 0)), some (.int (nI p)), some (.int (nI q)), some (.int (nI s)), some (.int (nI d)), some (.int (fx x p q (σ 1 p) (σ 2 p) s d i)), some (.int (nI i)), some (.int (nI ((10 * e) + i)))]) 40 rfl d_Mod_force_38 (by decide) rfl rfl ?_
          refine r_aload_n rfl 41 rfl d_Mod_force_40 ?_
          refine r_getf (v := .ref (a 16)) gf_Mod_33 0 rfl rfl 44 rfl d_Mod_force_41 ?_
          refine r_iload rfl 46 rfl d_Mod_force_44 ?_
          refine r_iald (f := σ 16) 8 rfl ((10 * e) + i) rfl (by omega) (by omega) 47 rfl d_Mod_force_46 ?_
          refine r_topi (nI (x.2.1 i)) (hwd) ?_
          refine r_iconst (nI 2) rfl 48 rfl d_Mod_force_47 ?_
          refine r_icmp_geN (x.2.1 i) 2 (by omega) (by omega) 51 98 rfl rfl d_Mod_force_48 (fun h48 => ?_) (fun h48 => ?_)
          · refine r_iinc (ls2 := [some (.ref (a 0)), some (.int (nI p)), some (.int (nI q)), some (.int (nI s)), some (.int (nI d)), some (.int (fx x p q (σ 1 p) (σ 2 p) s d i)), some (.int (nI (i + 1))), some (.int (nI ((10 * e) + i)))]) (nI (i + 1)) rfl (nI_1 _) 101 rfl d_Mod_force_98 (by decide) rfl rfl ?_
            refine r_goto 6 rfl d_Mod_force_101 ?_
            refine r_forget (ls2 := [some (.ref (a 0)), some (.int (nI p)), some (.int (nI q)), some (.int (nI s)), some (.int (nI d)), some (.int (fx x p q (σ 1 p) (σ 2 p) s d i)), some (.int (nI (i + 1))), none]) 7 rfl ?_
            refine Runs.cast (ih2 (i + 1) (t) (by omega) (by omega)) (by rw [fx, if_neg (fun z => absurd z.1 (by omega))]; try rfl) rfl (rfl)
          · refine r_aload_n rfl 52 rfl d_Mod_force_51 ?_
            refine r_iload_n rfl 53 rfl d_Mod_force_52 ?_
            refine r_iload_n rfl 54 rfl d_Mod_force_53 ?_
            refine r_iload_n rfl 55 rfl d_Mod_force_54 ?_
            refine r_iload rfl 57 rfl d_Mod_force_55 ?_
            refine r_iload rfl 59 rfl d_Mod_force_57 ?_
            refine r_callVAQ (st2 := []) (w2 := []) lk_Mod_isTrue ln_Mod_226 (c_Mod_isTrue X a ν (u2 σ 22 (t)) τ p q s d hp hq hs hd (10 * e + i) bg (x.2.2.2.1 i) (x.2.2.2.2 i) (by omega) hbg hln hbl htk (hoi.2.2 h48)) (by first | decide | omega) rfl rfl (Nat.le_of_ble_eq_true rfl) (Nat.le_of_ble_eq_true rfl) (Nat.le_of_ble_eq_true rfl) 0 rfl rfl 62 rfl d_Mod_force_59 (fun vv ww hq2 => ?_)
            obtain ⟨t2, rfl, rfl⟩ := hq2
            rw [u2_u2]
            refine ⟨rfl, ?_⟩
            show Runs X 3 M_Mod_force 0 0 Q 62 [some (.ref (a 0)), some (.int (nI p)), some (.int (nI q)), some (.int (nI s)), some (.int (nI d)), some (.int (fx x p q (σ 1 p) (σ 2 p) s d i)), some (.int (nI i)), some (.int (nI ((10 * e) + i)))] [.int (bI (truth x p q (σ 1 p) (σ 2 p) s d i))] 0 0 (MW X a ν (u2 σ 22 (t2)) τ)
            refine r_if_eqB 65 98 rfl rfl d_Mod_force_62 (fun h62 => ?_) (fun h62 => ?_)
            · refine r_iinc (ls2 := [some (.ref (a 0)), some (.int (nI p)), some (.int (nI q)), some (.int (nI s)), some (.int (nI d)), some (.int (fx x p q (σ 1 p) (σ 2 p) s d i)), some (.int (nI (i + 1))), some (.int (nI ((10 * e) + i)))]) (nI (i + 1)) rfl (nI_1 _) 101 rfl d_Mod_force_98 (by decide) rfl rfl ?_
              refine r_goto 6 rfl d_Mod_force_101 ?_
              refine r_forget (ls2 := [some (.ref (a 0)), some (.int (nI p)), some (.int (nI q)), some (.int (nI s)), some (.int (nI d)), some (.int (fx x p q (σ 1 p) (σ 2 p) s d i)), some (.int (nI (i + 1))), none]) 7 rfl ?_
              refine Runs.cast (ih2 (i + 1) (t2) (by omega) (by omega)) (by rw [fx, if_neg (fun z => by rw [h62] at z; exact absurd z.2 (by decide))]; try rfl) rfl (rfl)
            · refine r_iload rfl 67 rfl d_Mod_force_65 ?_
              refine r_aload_n rfl 68 rfl d_Mod_force_67 ?_
              refine r_getf (v := .ref (a 16)) gf_Mod_33 0 rfl rfl 71 rfl d_Mod_force_68 ?_
              refine r_iload rfl 73 rfl d_Mod_force_71 ?_
              refine r_iald (f := σ 16) 8 rfl ((10 * e) + i) rfl (by omega) (by omega) 74 rfl d_Mod_force_73 ?_
              refine r_topi (nI (x.2.1 i)) (hwd) ?_
              refine r_if_neN (x.2.1 i) (by omega) 77 87 rfl rfl d_Mod_force_74 (fun h74 => ?_) (fun h74 => ?_)
              · refine r_aload_n rfl 88 rfl d_Mod_force_87 ?_
                refine r_getf (v := .ref (a 17)) gf_Mod_36 0 rfl rfl 91 rfl d_Mod_force_88 ?_
                refine r_iload rfl 93 rfl d_Mod_force_91 ?_
                refine r_iald (f := σ 17) 9 rfl ((10 * e) + i) rfl (by omega) (by omega) 94 rfl d_Mod_force_93 ?_
                refine r_topi (nI (x.2.2.1 i)) (hnm) ?_
                refine r_ineg 95 rfl d_Mod_force_94 ?_
                refine r_iadd 96 rfl d_Mod_force_95 ?_
                refine r_istore (ls2 := [some (.ref (a 0)), some (.int (nI p)), some (.int (nI q)), some (.int (nI s)), some (.int (nI d)), some (.int ((fx x p q (σ 1 p) (σ 2 p) s d i) + (-(nI (x.2.2.1 i))))), some (.int (nI i)), some (.int (nI ((10 * e) + i)))]) 98 rfl d_Mod_force_96 (by decide) rfl rfl ?_
                refine r_iinc (ls2 := [some (.ref (a 0)), some (.int (nI p)), some (.int (nI q)), some (.int (nI s)), some (.int (nI d)), some (.int ((fx x p q (σ 1 p) (σ 2 p) s d i) + (-(nI (x.2.2.1 i))))), some (.int (nI (i + 1))), some (.int (nI ((10 * e) + i)))]) (nI (i + 1)) rfl (nI_1 _) 101 rfl d_Mod_force_98 (by decide) rfl rfl ?_
                refine r_goto 6 rfl d_Mod_force_101 ?_
                refine r_forget (ls2 := [some (.ref (a 0)), some (.int (nI p)), some (.int (nI q)), some (.int (nI s)), some (.int (nI d)), some (.int ((fx x p q (σ 1 p) (σ 2 p) s d i) + (-(nI (x.2.2.1 i))))), some (.int (nI (i + 1))), none]) 7 rfl ?_
                refine Runs.cast (ih2 (i + 1) (t2) (by omega) (by omega)) (by rw [fx, if_pos ⟨h48, h62⟩, if_neg h74]; try rfl) rfl (rfl)
              · refine r_aload_n rfl 78 rfl d_Mod_force_77 ?_
                refine r_getf (v := .ref (a 17)) gf_Mod_36 0 rfl rfl 81 rfl d_Mod_force_78 ?_
                refine r_iload rfl 83 rfl d_Mod_force_81 ?_
                refine r_iald (f := σ 17) 9 rfl ((10 * e) + i) rfl (by omega) (by omega) 84 rfl d_Mod_force_83 ?_
                refine r_topi (nI (x.2.2.1 i)) (hnm) ?_
                refine r_goto 95 rfl d_Mod_force_84 ?_
                refine r_iadd 96 rfl d_Mod_force_95 ?_
                refine r_istore (ls2 := [some (.ref (a 0)), some (.int (nI p)), some (.int (nI q)), some (.int (nI s)), some (.int (nI d)), some (.int ((fx x p q (σ 1 p) (σ 2 p) s d i) + (nI (x.2.2.1 i)))), some (.int (nI i)), some (.int (nI ((10 * e) + i)))]) 98 rfl d_Mod_force_96 (by decide) rfl rfl ?_
                refine r_iinc (ls2 := [some (.ref (a 0)), some (.int (nI p)), some (.int (nI q)), some (.int (nI s)), some (.int (nI d)), some (.int ((fx x p q (σ 1 p) (σ 2 p) s d i) + (nI (x.2.2.1 i)))), some (.int (nI (i + 1))), some (.int (nI ((10 * e) + i)))]) (nI (i + 1)) rfl (nI_1 _) 101 rfl d_Mod_force_98 (by decide) rfl rfl ?_
                refine r_goto 6 rfl d_Mod_force_101 ?_
                refine r_forget (ls2 := [some (.ref (a 0)), some (.int (nI p)), some (.int (nI q)), some (.int (nI s)), some (.int (nI d)), some (.int ((fx x p q (σ 1 p) (σ 2 p) s d i) + (nI (x.2.2.1 i)))), some (.int (nI (i + 1))), none]) 7 rfl ?_
                refine Runs.cast (ih2 (i + 1) (t2) (by omega) (by omega)) (by rw [fx, if_pos ⟨h48, h62⟩, if_pos h74]; try rfl) rfl (rfl)
  refine Runs.cast (L6_1 _ 0 (σ 22) (Nat.zero_le _) (Nat.lt_succ_self _)) (rfl) rfl (by rw [u2_self])
theorem c_Mod_bind (X : Xn) (a ν : Nat → Nat) (σ : Nat → Nat → Int32) (τ : Nat → Int64) (x : EX) (hx : heldX σ x) : Does X 1 M_Mod_bind [.ref (a 0)] (MW X a ν σ τ) 0 0 (fun (vv : Option Value) (ww : va_W) => vv = some (.int (nI (bd x x.1))) ∧ ww = MW X a ν σ τ) := by
  generalize hQ : (fun (vv : Option Value) (ww : va_W) => vv = some (.int (nI (bd x x.1))) ∧ ww = MW X a ν σ τ) = Q
  refine Does.go rfl (Nat.le_of_ble_eq_true rfl) [some (.ref (a 0)), none, none] 2 rfl ?_
  refine r_iconst (nI 5) rfl 1 rfl d_Mod_bind_0 ?_
  refine r_istore_n (ls2 := [some (.ref (a 0)), some (.int (nI 5)), none]) 2 rfl d_Mod_bind_1 (by decide) rfl rfl ?_
  refine r_iconst (nI 0) rfl 3 rfl d_Mod_bind_2 ?_
  refine r_istore_n (ls2 := [some (.ref (a 0)), some (.int (nI 5)), some (.int (nI 0))]) 4 rfl d_Mod_bind_3 (by decide) rfl rfl ?_
  have L4_1 : ∀ (f : Nat) (i : Nat), (i ≤ x.1) → x.1 - i < f → Runs X 1 M_Mod_bind 0 0 Q 4 [some (.ref (a 0)), some (.int (nI (bd x i))), some (.int (nI i))] [] 0 0 (MW X a ν σ τ) := by
    intro f
    induction f with
    | zero => intro i hi hmu; exact absurd hmu (Nat.not_lt_zero _)
    | succ f ih2 =>
      intro i hi hmu
      refine r_aload_n rfl 5 rfl d_Mod_bind_4 ?_
      refine r_getf (v := .int (σ 14 0)) gf_Mod_107 0 rfl rfl 8 rfl d_Mod_bind_5 ?_
      refine r_iconst ((-1)) rfl 9 rfl d_Mod_bind_8 ?_
      refine r_icmp_eq 12 64 rfl rfl d_Mod_bind_9 (fun h9 => ?_) (fun h9 => ?_)
      · have hm0 := held_no hx h9
        refine r_iload_n rfl 65 rfl d_Mod_bind_64 ?_
        exact r_iret rfl (Nat.zero_le _) (Nat.zero_le _) d_Mod_bind_65 (by rw [← hQ]; exact ⟨by rw [show i = x.1 by omega], rfl⟩)
      · refine r_iload_n rfl 13 rfl d_Mod_bind_12 ?_
        refine r_aload_n rfl 14 rfl d_Mod_bind_13 ?_
        refine r_getf (v := .ref (a 15)) gf_Mod_30 0 rfl rfl 17 rfl d_Mod_bind_14 ?_
        refine r_aload_n rfl 18 rfl d_Mod_bind_17 ?_
        refine r_getf (v := .int (σ 14 0)) gf_Mod_107 0 rfl rfl 21 rfl d_Mod_bind_18 ?_
        obtain ⟨e, he6, he, hme⟩ := held_yes hx h9
        refine r_topi (nI e) he ?_
        refine r_iald (f := σ 15) 7 rfl e rfl (by omega) (by omega) 22 rfl d_Mod_bind_21 ?_
        have hm10 := hx.1.1
        refine r_topi (nI x.1) (hme.1) ?_
        refine r_icmp_geN i x.1 (by omega) (by omega) 25 64 rfl rfl d_Mod_bind_22 (fun h22 => ?_) (fun h22 => ?_)
        · refine r_iload_n rfl 65 rfl d_Mod_bind_64 ?_
          exact r_iret rfl (Nat.zero_le _) (Nat.zero_le _) d_Mod_bind_65 (by rw [← hQ]; exact ⟨by rw [show i = x.1 by omega], rfl⟩)
        · refine r_aload_n rfl 26 rfl d_Mod_bind_25 ?_
          refine r_getf (v := .ref (a 16)) gf_Mod_33 0 rfl rfl 29 rfl d_Mod_bind_26 ?_
          refine r_bipush (nI 10) rfl 31 rfl d_Mod_bind_29 ?_
          refine r_aload_n rfl 32 rfl d_Mod_bind_31 ?_
          refine r_getf (v := .int (σ 14 0)) gf_Mod_107 0 rfl rfl 35 rfl d_Mod_bind_32 ?_
          refine r_topi (nI e) he ?_
          refine r_imul 36 rfl d_Mod_bind_35 ?_
          refine r_topi (nI (10 * e)) (pk_mul _ _) ?_
          refine r_iload_n rfl 37 rfl d_Mod_bind_36 ?_
          refine r_iadd 38 rfl d_Mod_bind_37 ?_
          refine r_topi (nI ((10 * e) + i)) (nI_add _ _) ?_
          refine r_iald (f := σ 16) 8 rfl ((10 * e) + i) rfl (by omega) (by omega) 39 rfl d_Mod_bind_38 ?_
          obtain ⟨hwd, hnm, -⟩ := hme.2 i h22
          have hoi := hx.1.2 i h22
          refine r_topi (nI (x.2.1 i)) (hwd) ?_
          refine r_iconst (nI 2) rfl 40 rfl d_Mod_bind_39 ?_
          refine r_icmp_neN (x.2.1 i) 2 (by omega) (by omega) 43 58 rfl rfl d_Mod_bind_40 (fun h40 => ?_) (fun h40 => ?_)
          · refine r_iinc (ls2 := [some (.ref (a 0)), some (.int (nI (bd x i))), some (.int (nI (i + 1)))]) (nI (i + 1)) rfl (nI_1 _) 61 rfl d_Mod_bind_58 (by decide) rfl rfl ?_
            refine r_goto 4 rfl d_Mod_bind_61 ?_
            refine Runs.cast (ih2 (i + 1) (by omega) (by omega)) (by rw [bd, if_neg h40]; try rfl) rfl (rfl)
          · refine r_aload_n rfl 44 rfl d_Mod_bind_43 ?_
            refine r_getf (v := .ref (a 17)) gf_Mod_36 0 rfl rfl 47 rfl d_Mod_bind_44 ?_
            refine r_bipush (nI 10) rfl 49 rfl d_Mod_bind_47 ?_
            refine r_aload_n rfl 50 rfl d_Mod_bind_49 ?_
            refine r_getf (v := .int (σ 14 0)) gf_Mod_107 0 rfl rfl 53 rfl d_Mod_bind_50 ?_
            refine r_topi (nI e) he ?_
            refine r_imul 54 rfl d_Mod_bind_53 ?_
            refine r_topi (nI (10 * e)) (pk_mul _ _) ?_
            refine r_iload_n rfl 55 rfl d_Mod_bind_54 ?_
            refine r_iadd 56 rfl d_Mod_bind_55 ?_
            refine r_topi (nI ((10 * e) + i)) (nI_add _ _) ?_
            refine r_iald (f := σ 17) 9 rfl ((10 * e) + i) rfl (by omega) (by omega) 57 rfl d_Mod_bind_56 ?_
            refine r_topi (nI (x.2.2.1 i)) (hnm) ?_
            refine r_istore_n (ls2 := [some (.ref (a 0)), some (.int (nI (x.2.2.1 i))), some (.int (nI i))]) 58 rfl d_Mod_bind_57 (by decide) rfl rfl ?_
            refine r_iinc (ls2 := [some (.ref (a 0)), some (.int (nI (x.2.2.1 i))), some (.int (nI (i + 1)))]) (nI (i + 1)) rfl (nI_1 _) 61 rfl d_Mod_bind_58 (by decide) rfl rfl ?_
            refine r_goto 4 rfl d_Mod_bind_61 ?_
            refine Runs.cast (ih2 (i + 1) (by omega) (by omega)) (by rw [bd, if_pos h40]; try rfl) rfl (rfl)
  exact L4_1 _ 0 (Nat.zero_le _) (Nat.lt_succ_self _)
theorem c_Mod_readBy (X : Xn) (a ν : Nat → Nat) (σ : Nat → Nat → Int32) (τ : Nat → Int64) (p q s d : Nat) (hp : p < 6) (hq : q < 6) (hs : s ≤ 99) (hd : d < 100000) (x : EX) (hx : heldX σ x) : Does X 4 M_Mod_readBy [.ref (a 0), .int (nI p), .int (nI q), .int (nI s), .int (nI d)] (MW X a ν σ τ) 0 0 (fun (vv : Option Value) (ww : va_W) => ∃ t : Nat → Int32, vv = some (.int (rdV x p q (σ 1 p) (σ 2 p) (σ 4) s d)) ∧ ww = MW X a ν (u2 σ 22 t) τ) := by
  generalize hQ : (fun (vv : Option Value) (ww : va_W) => ∃ t : Nat → Int32, vv = some (.int (rdV x p q (σ 1 p) (σ 2 p) (σ 4) s d)) ∧ ww = MW X a ν (u2 σ 22 t) τ) = Q
  refine Does.go rfl (Nat.le_of_ble_eq_true rfl) [some (.ref (a 0)), some (.int (nI p)), some (.int (nI q)), some (.int (nI s)), some (.int (nI d)), none, none] 2 rfl ?_
  refine r_aload_n rfl 1 rfl d_Mod_readBy_0 ?_
  refine r_iload_n rfl 2 rfl d_Mod_readBy_1 ?_
  refine r_iload_n rfl 3 rfl d_Mod_readBy_2 ?_
  refine r_iload_n rfl 4 rfl d_Mod_readBy_3 ?_
  refine r_iload rfl 6 rfl d_Mod_readBy_4 ?_
  refine r_callVAQ (st2 := []) (w2 := []) lk_Mod_force ln_Mod_230 (c_Mod_force X a ν σ τ p q s d hp hq hs hd x hx) (by first | decide | omega) rfl rfl (Nat.le_of_ble_eq_true rfl) (Nat.le_of_ble_eq_true rfl) (Nat.le_of_ble_eq_true rfl) 0 rfl rfl 9 rfl d_Mod_readBy_6 (fun vv ww hq2 => ?_)
  obtain ⟨t2, rfl, rfl⟩ := hq2
  refine ⟨rfl, ?_⟩
  show Runs X 4 M_Mod_readBy 0 0 Q 9 [some (.ref (a 0)), some (.int (nI p)), some (.int (nI q)), some (.int (nI s)), some (.int (nI d)), none, none] [.int (fx x p q (σ 1 p) (σ 2 p) s d x.1)] 0 0 (MW X a ν (u2 σ 22 (t2)) τ)
  refine r_istore (ls2 := [some (.ref (a 0)), some (.int (nI p)), some (.int (nI q)), some (.int (nI s)), some (.int (nI d)), some (.int (fx x p q (σ 1 p) (σ 2 p) s d x.1)), none]) 11 rfl d_Mod_readBy_9 (by decide) rfl rfl ?_
  refine r_iload rfl 13 rfl d_Mod_readBy_11 ?_
  refine r_istore (ls2 := [some (.ref (a 0)), some (.int (nI p)), some (.int (nI q)), some (.int (nI s)), some (.int (nI d)), some (.int (fx x p q (σ 1 p) (σ 2 p) s d x.1)), some (.int (fx x p q (σ 1 p) (σ 2 p) s d x.1))]) 15 rfl d_Mod_readBy_13 (by decide) rfl rfl ?_
  have J171_1 : Runs X 4 M_Mod_readBy 0 0 Q 171 [some (.ref (a 0)), some (.int (nI p)), some (.int (nI q)), some (.int (nI s)), some (.int (nI d)), some (.int (fx x p q (σ 1 p) (σ 2 p) s d x.1)), some (.int (hearV (σ 1 p) (σ 2 p) (fx x p q (σ 1 p) (σ 2 p) s d x.1) (σ 4) p d))] [] 0 0 (MW X a ν (u2 σ 22 (t2)) τ) := by
    refine r_iload rfl 173 rfl d_Mod_readBy_171 ?_
    refine r_aload_n rfl 174 rfl d_Mod_readBy_173 ?_
    refine r_callVA1 (st2 := [.int (nI (bd x x.1)), .int (hearV (σ 1 p) (σ 2 p) (fx x p q (σ 1 p) (σ 2 p) s d x.1) (σ 4) p d)]) (w2 := MW X a ν (u2 σ 22 (t2)) τ) lk_Mod_bind ln_Mod_234 (c_Mod_bind X a ν (u2 σ 22 (t2)) τ x hx) (by first | decide | omega) rfl rfl (Nat.le_of_ble_eq_true rfl) (Nat.le_of_ble_eq_true rfl) (Nat.le_of_ble_eq_true rfl) 0 rfl rfl rfl rfl 177 rfl d_Mod_readBy_174 ?_
    refine r_icmp_ge 180 184 rfl rfl d_Mod_readBy_177 (fun h177 => ?_) (fun h177 => ?_)
    · refine r_iload rfl 186 rfl d_Mod_readBy_184 ?_
      exact r_iret rfl (Nat.zero_le _) (Nat.zero_le _) d_Mod_readBy_186 (by rw [← hQ]; exact ⟨_, by rw [rdV, if_neg (Int32.not_lt.mpr h177)], rfl⟩)
    · refine r_iconst (nI 0) rfl 181 rfl d_Mod_readBy_180 ?_
      refine r_goto 186 rfl d_Mod_readBy_181 ?_
      exact r_iret rfl (Nat.zero_le _) (Nat.zero_le _) d_Mod_readBy_186 (by rw [← hQ]; exact ⟨_, by rw [rdV, if_pos (Int32.not_le.mp h177)], rfl⟩)
  refine r_aload_n rfl 16 rfl d_Mod_readBy_15 ?_
  refine r_getf (v := .ref (a 1)) gf_Mod_9 0 rfl rfl 19 rfl d_Mod_readBy_16 ?_
  refine r_iload_n rfl 20 rfl d_Mod_readBy_19 ?_
  refine r_iald (f := σ 1) 1 rfl p rfl (by omega) (by omega) 21 rfl d_Mod_readBy_20 ?_
  by_cases h21_1 : σ 1 p = 1
  · refine r_tableIn 60 d_Mod_readBy_21 (by rw [h21_1]; decide) (by rw [h21_1]; decide) (by rw [h21_1]; try rfl) rfl ?_
    refine r_iload rfl 62 rfl d_Mod_readBy_60 ?_
    refine r_iconst (nI 2) rfl 63 rfl d_Mod_readBy_62 ?_
    refine r_aload_n rfl 64 rfl d_Mod_readBy_63 ?_
    refine r_getf (v := .ref (a 2)) gf_Mod_15 0 rfl rfl 67 rfl d_Mod_readBy_64 ?_
    refine r_iload_n rfl 68 rfl d_Mod_readBy_67 ?_
    refine r_iald (f := σ 2) 2 rfl p rfl (by omega) (by omega) 69 rfl d_Mod_readBy_68 ?_
    refine r_imul 70 rfl d_Mod_readBy_69 ?_
    refine r_iadd 71 rfl d_Mod_readBy_70 ?_
    refine r_istore (ls2 := [some (.ref (a 0)), some (.int (nI p)), some (.int (nI q)), some (.int (nI s)), some (.int (nI d)), some (.int (fx x p q (σ 1 p) (σ 2 p) s d x.1)), some (.int ((fx x p q (σ 1 p) (σ 2 p) s d x.1) + ((nI 2) * (σ 2 p))))]) 73 rfl d_Mod_readBy_71 (by decide) rfl rfl ?_
    refine r_goto 171 rfl d_Mod_readBy_73 ?_
    refine Runs.cast (ls' := [some (.ref (a 0)), some (.int (nI p)), some (.int (nI q)), some (.int (nI s)), some (.int (nI d)), some (.int (fx x p q (σ 1 p) (σ 2 p) s d x.1)), some (.int (hearV (σ 1 p) (σ 2 p) (fx x p q (σ 1 p) (σ 2 p) s d x.1) (σ 4) p d))]) ?_ (by rw [show hearV (σ 1 p) (σ 2 p) (fx x p q (σ 1 p) (σ 2 p) s d x.1) (σ 4) p d = (fx x p q (σ 1 p) (σ 2 p) s d x.1) + ((nI 2) * (σ 2 p)) from by rw [hearV, if_pos h21_1]]) rfl rfl
    exact J171_1  
  by_cases h21_2 : σ 1 p = 2
  · refine r_tableIn 76 d_Mod_readBy_21 (by rw [h21_2]; decide) (by rw [h21_2]; decide) (by rw [h21_2]; try rfl) rfl ?_
    refine r_iload rfl 78 rfl d_Mod_readBy_76 ?_
    refine r_iload rfl 80 rfl d_Mod_readBy_78 ?_
    refine r_bipush (nI 6) rfl 82 rfl d_Mod_readBy_80 ?_
    refine r_idiv (by decide) 83 rfl d_Mod_readBy_82 ?_
    refine r_isub 84 rfl d_Mod_readBy_83 ?_
    refine r_istore (ls2 := [some (.ref (a 0)), some (.int (nI p)), some (.int (nI q)), some (.int (nI s)), some (.int (nI d)), some (.int (fx x p q (σ 1 p) (σ 2 p) s d x.1)), some (.int ((fx x p q (σ 1 p) (σ 2 p) s d x.1) - ((fx x p q (σ 1 p) (σ 2 p) s d x.1) / (nI 6))))]) 86 rfl d_Mod_readBy_84 (by decide) rfl rfl ?_
    refine r_goto 171 rfl d_Mod_readBy_86 ?_
    refine Runs.cast (ls' := [some (.ref (a 0)), some (.int (nI p)), some (.int (nI q)), some (.int (nI s)), some (.int (nI d)), some (.int (fx x p q (σ 1 p) (σ 2 p) s d x.1)), some (.int (hearV (σ 1 p) (σ 2 p) (fx x p q (σ 1 p) (σ 2 p) s d x.1) (σ 4) p d))]) ?_ (by rw [show hearV (σ 1 p) (σ 2 p) (fx x p q (σ 1 p) (σ 2 p) s d x.1) (σ 4) p d = (fx x p q (σ 1 p) (σ 2 p) s d x.1) - ((fx x p q (σ 1 p) (σ 2 p) s d x.1) / (nI 6)) from by rw [hearV, if_neg h21_1, if_pos h21_2]]) rfl rfl
    exact J171_1  
  by_cases h21_3 : σ 1 p = 3
  · refine r_tableIn 89 d_Mod_readBy_21 (by rw [h21_3]; decide) (by rw [h21_3]; decide) (by rw [h21_3]; try rfl) rfl ?_
    refine r_iload rfl 91 rfl d_Mod_readBy_89 ?_
    refine r_iconst (nI 2) rfl 92 rfl d_Mod_readBy_91 ?_
    refine r_idiv (by decide) 93 rfl d_Mod_readBy_92 ?_
    refine r_istore (ls2 := [some (.ref (a 0)), some (.int (nI p)), some (.int (nI q)), some (.int (nI s)), some (.int (nI d)), some (.int (fx x p q (σ 1 p) (σ 2 p) s d x.1)), some (.int ((fx x p q (σ 1 p) (σ 2 p) s d x.1) / (nI 2)))]) 95 rfl d_Mod_readBy_93 (by decide) rfl rfl ?_
    refine r_goto 171 rfl d_Mod_readBy_95 ?_
    refine Runs.cast (ls' := [some (.ref (a 0)), some (.int (nI p)), some (.int (nI q)), some (.int (nI s)), some (.int (nI d)), some (.int (fx x p q (σ 1 p) (σ 2 p) s d x.1)), some (.int (hearV (σ 1 p) (σ 2 p) (fx x p q (σ 1 p) (σ 2 p) s d x.1) (σ 4) p d))]) ?_ (by rw [show hearV (σ 1 p) (σ 2 p) (fx x p q (σ 1 p) (σ 2 p) s d x.1) (σ 4) p d = (fx x p q (σ 1 p) (σ 2 p) s d x.1) / (nI 2) from by rw [hearV, if_neg h21_1, if_neg h21_2, if_pos h21_3]]) rfl rfl
    exact J171_1  
  by_cases h21_4 : σ 1 p = 4
  · refine r_tableIn 98 d_Mod_readBy_21 (by rw [h21_4]; decide) (by rw [h21_4]; decide) (by rw [h21_4]; try rfl) rfl ?_
    refine r_iload rfl 100 rfl d_Mod_readBy_98 ?_
    refine r_bipush (nI 7) rfl 102 rfl d_Mod_readBy_100 ?_
    refine r_irem (by decide) 103 rfl d_Mod_readBy_102 ?_
    refine r_topi (nI (d % 7)) (pk_rem (by omega) (by omega) (by omega)) ?_
    refine r_bipush (nI 6) rfl 105 rfl d_Mod_readBy_103 ?_
    refine r_icmp_neN (d % 7) 6 (by omega) (by omega) 108 112 rfl rfl d_Mod_readBy_105 (fun h105 => ?_) (fun h105 => ?_)
    · refine r_iload rfl 114 rfl d_Mod_readBy_112 ?_
      refine r_iconst (nI 2) rfl 115 rfl d_Mod_readBy_114 ?_
      refine r_aload_n rfl 116 rfl d_Mod_readBy_115 ?_
      refine r_getf (v := .ref (a 2)) gf_Mod_15 0 rfl rfl 119 rfl d_Mod_readBy_116 ?_
      refine r_iload_n rfl 120 rfl d_Mod_readBy_119 ?_
      refine r_iald (f := σ 2) 2 rfl p rfl (by omega) (by omega) 121 rfl d_Mod_readBy_120 ?_
      refine r_imul 122 rfl d_Mod_readBy_121 ?_
      refine r_iadd 123 rfl d_Mod_readBy_122 ?_
      refine r_istore (ls2 := [some (.ref (a 0)), some (.int (nI p)), some (.int (nI q)), some (.int (nI s)), some (.int (nI d)), some (.int (fx x p q (σ 1 p) (σ 2 p) s d x.1)), some (.int ((fx x p q (σ 1 p) (σ 2 p) s d x.1) + ((nI 2) * (σ 2 p))))]) 125 rfl d_Mod_readBy_123 (by decide) rfl rfl ?_
      refine r_goto 171 rfl d_Mod_readBy_125 ?_
      refine Runs.cast (ls' := [some (.ref (a 0)), some (.int (nI p)), some (.int (nI q)), some (.int (nI s)), some (.int (nI d)), some (.int (fx x p q (σ 1 p) (σ 2 p) s d x.1)), some (.int (hearV (σ 1 p) (σ 2 p) (fx x p q (σ 1 p) (σ 2 p) s d x.1) (σ 4) p d))]) ?_ (by rw [show hearV (σ 1 p) (σ 2 p) (fx x p q (σ 1 p) (σ 2 p) s d x.1) (σ 4) p d = (fx x p q (σ 1 p) (σ 2 p) s d x.1) + ((nI 2) * (σ 2 p)) from by rw [hearV, if_neg h21_1, if_neg h21_2, if_neg h21_3, if_pos h21_4, if_neg h105]]) rfl rfl
      exact J171_1  
    · refine r_iconst (nI 0) rfl 109 rfl d_Mod_readBy_108 ?_
      refine r_goto 123 rfl d_Mod_readBy_109 ?_
      refine r_istore (ls2 := [some (.ref (a 0)), some (.int (nI p)), some (.int (nI q)), some (.int (nI s)), some (.int (nI d)), some (.int (fx x p q (σ 1 p) (σ 2 p) s d x.1)), some (.int (nI 0))]) 125 rfl d_Mod_readBy_123 (by decide) rfl rfl ?_
      refine r_goto 171 rfl d_Mod_readBy_125 ?_
      refine Runs.cast (ls' := [some (.ref (a 0)), some (.int (nI p)), some (.int (nI q)), some (.int (nI s)), some (.int (nI d)), some (.int (fx x p q (σ 1 p) (σ 2 p) s d x.1)), some (.int (hearV (σ 1 p) (σ 2 p) (fx x p q (σ 1 p) (σ 2 p) s d x.1) (σ 4) p d))]) ?_ (by rw [show hearV (σ 1 p) (σ 2 p) (fx x p q (σ 1 p) (σ 2 p) s d x.1) (σ 4) p d = nI 0 from by rw [hearV, if_neg h21_1, if_neg h21_2, if_neg h21_3, if_pos h21_4, if_pos h105]]) rfl rfl
      exact J171_1  
  by_cases h21_5 : σ 1 p = 5
  · refine r_tableIn 128 d_Mod_readBy_21 (by rw [h21_5]; decide) (by rw [h21_5]; decide) (by rw [h21_5]; try rfl) rfl ?_
    refine r_iload rfl 130 rfl d_Mod_readBy_128 ?_
    refine r_iload rfl 132 rfl d_Mod_readBy_130 ?_
    refine r_bipush (nI 6) rfl 134 rfl d_Mod_readBy_132 ?_
    refine r_idiv (by decide) 135 rfl d_Mod_readBy_134 ?_
    refine r_isub 136 rfl d_Mod_readBy_135 ?_
    refine r_aload_n rfl 137 rfl d_Mod_readBy_136 ?_
    refine r_getf (v := .ref (a 2)) gf_Mod_15 0 rfl rfl 140 rfl d_Mod_readBy_137 ?_
    refine r_iload_n rfl 141 rfl d_Mod_readBy_140 ?_
    refine r_iald (f := σ 2) 2 rfl p rfl (by omega) (by omega) 142 rfl d_Mod_readBy_141 ?_
    refine r_isub 143 rfl d_Mod_readBy_142 ?_
    refine r_istore (ls2 := [some (.ref (a 0)), some (.int (nI p)), some (.int (nI q)), some (.int (nI s)), some (.int (nI d)), some (.int (fx x p q (σ 1 p) (σ 2 p) s d x.1)), some (.int (((fx x p q (σ 1 p) (σ 2 p) s d x.1) - ((fx x p q (σ 1 p) (σ 2 p) s d x.1) / (nI 6))) - (σ 2 p)))]) 145 rfl d_Mod_readBy_143 (by decide) rfl rfl ?_
    refine r_goto 171 rfl d_Mod_readBy_145 ?_
    refine Runs.cast (ls' := [some (.ref (a 0)), some (.int (nI p)), some (.int (nI q)), some (.int (nI s)), some (.int (nI d)), some (.int (fx x p q (σ 1 p) (σ 2 p) s d x.1)), some (.int (hearV (σ 1 p) (σ 2 p) (fx x p q (σ 1 p) (σ 2 p) s d x.1) (σ 4) p d))]) ?_ (by rw [show hearV (σ 1 p) (σ 2 p) (fx x p q (σ 1 p) (σ 2 p) s d x.1) (σ 4) p d = ((fx x p q (σ 1 p) (σ 2 p) s d x.1) - ((fx x p q (σ 1 p) (σ 2 p) s d x.1) / (nI 6))) - (σ 2 p) from by rw [hearV, if_neg h21_1, if_neg h21_2, if_neg h21_3, if_neg h21_4, if_pos h21_5]]) rfl rfl
    exact J171_1  
  by_cases h21_6 : σ 1 p = 6
  · refine r_tableIn 148 d_Mod_readBy_21 (by rw [h21_6]; decide) (by rw [h21_6]; decide) (by rw [h21_6]; try rfl) rfl ?_
    refine r_iload rfl 150 rfl d_Mod_readBy_148 ?_
    refine r_iconst (nI 2) rfl 151 rfl d_Mod_readBy_150 ?_
    refine r_idiv (by decide) 152 rfl d_Mod_readBy_151 ?_
    refine r_aload_n rfl 153 rfl d_Mod_readBy_152 ?_
    refine r_getf (v := .ref (a 4)) gf_Mod_21 0 rfl rfl 156 rfl d_Mod_readBy_153 ?_
    refine r_iconst (nI 4) rfl 157 rfl d_Mod_readBy_156 ?_
    refine r_iload_n rfl 158 rfl d_Mod_readBy_157 ?_
    refine r_imul 159 rfl d_Mod_readBy_158 ?_
    refine r_topi (nI (4 * p)) (pk_mul _ _) ?_
    refine r_iload rfl 161 rfl d_Mod_readBy_159 ?_
    refine r_iconst (nI 4) rfl 162 rfl d_Mod_readBy_161 ?_
    refine r_irem (by decide) 163 rfl d_Mod_readBy_162 ?_
    refine r_topi (nI (d % 4)) (pk_rem (by omega) (by omega) (by omega)) ?_
    refine r_iadd 164 rfl d_Mod_readBy_163 ?_
    refine r_topi (nI ((4 * p) + (d % 4))) (nI_add _ _) ?_
    refine r_iald (f := σ 4) 4 rfl ((4 * p) + (d % 4)) rfl (by omega) (by omega) 165 rfl d_Mod_readBy_164 ?_
    refine r_iadd 166 rfl d_Mod_readBy_165 ?_
    refine r_istore (ls2 := [some (.ref (a 0)), some (.int (nI p)), some (.int (nI q)), some (.int (nI s)), some (.int (nI d)), some (.int (fx x p q (σ 1 p) (σ 2 p) s d x.1)), some (.int (((fx x p q (σ 1 p) (σ 2 p) s d x.1) / (nI 2)) + (σ 4 ((4 * p) + (d % 4)))))]) 168 rfl d_Mod_readBy_166 (by decide) rfl rfl ?_
    refine r_goto 171 rfl d_Mod_readBy_168 ?_
    refine Runs.cast (ls' := [some (.ref (a 0)), some (.int (nI p)), some (.int (nI q)), some (.int (nI s)), some (.int (nI d)), some (.int (fx x p q (σ 1 p) (σ 2 p) s d x.1)), some (.int (hearV (σ 1 p) (σ 2 p) (fx x p q (σ 1 p) (σ 2 p) s d x.1) (σ 4) p d))]) ?_ (by rw [show hearV (σ 1 p) (σ 2 p) (fx x p q (σ 1 p) (σ 2 p) s d x.1) (σ 4) p d = ((fx x p q (σ 1 p) (σ 2 p) s d x.1) / (nI 2)) + (σ 4 ((4 * p) + (d % 4))) from by rw [hearV, if_neg h21_1, if_neg h21_2, if_neg h21_3, if_neg h21_4, if_neg h21_5, if_pos h21_6]]) rfl rfl
    exact J171_1  
  have t21_1 : ¬ (σ 1 p).toInt = 1 := lv_neT h21_1 (by decide)
  have t21_2 : ¬ (σ 1 p).toInt = 2 := lv_neT h21_2 (by decide)
  have t21_3 : ¬ (σ 1 p).toInt = 3 := lv_neT h21_3 (by decide)
  have t21_4 : ¬ (σ 1 p).toInt = 4 := lv_neT h21_4 (by decide)
  have t21_5 : ¬ (σ 1 p).toInt = 5 := lv_neT h21_5 (by decide)
  have t21_6 : ¬ (σ 1 p).toInt = 6 := lv_neT h21_6 (by decide)
  refine r_tableOut 171 d_Mod_readBy_21 (by omega) rfl ?_
  refine Runs.cast (ls' := [some (.ref (a 0)), some (.int (nI p)), some (.int (nI q)), some (.int (nI s)), some (.int (nI d)), some (.int (fx x p q (σ 1 p) (σ 2 p) s d x.1)), some (.int (hearV (σ 1 p) (σ 2 p) (fx x p q (σ 1 p) (σ 2 p) s d x.1) (σ 4) p d))]) ?_ (by rw [show hearV (σ 1 p) (σ 2 p) (fx x p q (σ 1 p) (σ 2 p) s d x.1) (σ 4) p d = fx x p q (σ 1 p) (σ 2 p) s d x.1 from by rw [hearV, if_neg h21_1, if_neg h21_2, if_neg h21_3, if_neg h21_4, if_neg h21_5, if_neg h21_6]]) rfl rfl
  exact J171_1  
