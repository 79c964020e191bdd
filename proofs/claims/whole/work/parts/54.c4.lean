def M_Mkt_join : XM := (⟨"HandshakeBinds$Market", "join", "(II)I"⟩, prog_6_method_3_code, 4, (some .int))
theorem d_Mkt_join_0 : decode M_Mkt_join.2.1 0 = .ok (.aload_n 0, 1) := by decide +kernel
theorem d_Mkt_join_1 : decode M_Mkt_join.2.1 1 = .ok (.getfield 12, 3) := by decide +kernel
theorem gf_Mkt_12 : GF "HandshakeBinds$Market" 12 1 0 := ⟨_, _, _, rfl, by decide, i_Mkt, inTB 167 (by decide +kernel) rfl⟩
theorem d_Mkt_join_4 : decode M_Mkt_join.2.1 4 = .ok (.getfield 73, 3) := by decide +kernel
theorem gf_Mkt_73 : GFn "HandshakeBinds$Market" 73 2 3 := ⟨_, _, _, rfl, by decide, i_Led, inNW 106 (by decide +kernel) rfl⟩
theorem d_Mkt_join_7 : decode M_Mkt_join.2.1 7 = .ok (.istore_n 3, 1) := by decide +kernel
theorem d_Mkt_join_8 : decode M_Mkt_join.2.1 8 = .ok (.aload_n 0, 1) := by decide +kernel
theorem d_Mkt_join_9 : decode M_Mkt_join.2.1 9 = .ok (.getfield 18, 3) := by decide +kernel
theorem gf_Mkt_18 : GF "HandshakeBinds$Market" 18 1 1 := ⟨_, _, _, rfl, by decide, i_Mkt, inTB 169 (by decide +kernel) rfl⟩
theorem d_Mkt_join_12 : decode M_Mkt_join.2.1 12 = .ok (.iload_n 3, 1) := by decide +kernel
theorem d_Mkt_join_13 : decode M_Mkt_join.2.1 13 = .ok (.iload_n 1, 1) := by decide +kernel
theorem d_Mkt_join_14 : decode M_Mkt_join.2.1 14 = .ok (.invokestatic 76, 3) := by decide +kernel
theorem ln_Mkt_76 : Cond.methodLinkNest "HandshakeBinds$Market" 76 M_HB_put.1 "HandshakeBinds" ∈ NW := inNW 347 (by decide +kernel) rfl
theorem d_Mkt_join_17 : decode M_Mkt_join.2.1 17 = .ok (.aload_n 0, 1) := by decide +kernel
theorem d_Mkt_join_18 : decode M_Mkt_join.2.1 18 = .ok (.getfield 22, 3) := by decide +kernel
theorem gf_Mkt_22 : GF "HandshakeBinds$Market" 22 1 2 := ⟨_, _, _, rfl, by decide, i_Mkt, inTB 171 (by decide +kernel) rfl⟩
theorem d_Mkt_join_21 : decode M_Mkt_join.2.1 21 = .ok (.iload_n 3, 1) := by decide +kernel
theorem d_Mkt_join_22 : decode M_Mkt_join.2.1 22 = .ok (.iload_n 2, 1) := by decide +kernel
theorem d_Mkt_join_23 : decode M_Mkt_join.2.1 23 = .ok (.invokestatic 76, 3) := by decide +kernel
theorem d_Mkt_join_26 : decode M_Mkt_join.2.1 26 = .ok (.aload_n 0, 1) := by decide +kernel
theorem d_Mkt_join_27 : decode M_Mkt_join.2.1 27 = .ok (.getfield 12, 3) := by decide +kernel
theorem d_Mkt_join_30 : decode M_Mkt_join.2.1 30 = .ok (.invokevirtual 80, 3) := by decide +kernel
theorem ln_Mkt_80 : Cond.methodLink "HandshakeBinds$Market" 80 M_Led_enter.1 ∈ TB := inTB 350 (by decide +kernel) rfl
theorem lk_Led_enter : LVt M_Led_enter 0 := ⟨⟨inTB 64 (by decide +kernel) rfl, inTB 353 (by decide +kernel) rfl, ⟨by decide, by decide, by decide +kernel⟩, by decide⟩, inTB 351 (by decide +kernel) rfl, inTB 352 (by decide +kernel) rfl⟩
theorem d_Mkt_join_33 : decode M_Mkt_join.2.1 33 = .ok (.iload_n 3, 1) := by decide +kernel
theorem d_Mkt_join_34 : decode M_Mkt_join.2.1 34 = .ok (.ireturn, 1) := by decide +kernel
def M_Mkt_heard : XM := (⟨"HandshakeBinds$Market", "heard", "(I)I"⟩, prog_6_method_6_code, 2, (some .int))
theorem d_Mkt_heard_0 : decode M_Mkt_heard.2.1 0 = .ok (.aload_n 0, 1) := by decide +kernel
theorem d_Mkt_heard_1 : decode M_Mkt_heard.2.1 1 = .ok (.getfield 49, 3) := by decide +kernel
theorem gf_Mkt_49 : GF "HandshakeBinds$Market" 49 1 8 := ⟨_, _, _, rfl, by decide, i_Mkt, inTB 182 (by decide +kernel) rfl⟩
theorem d_Mkt_heard_4 : decode M_Mkt_heard.2.1 4 = .ok (.getfield 97, 3) := by decide +kernel
theorem gf_Mkt_97 : GFn "HandshakeBinds$Market" 97 4 2 := ⟨_, _, _, rfl, by decide, i_Fac, inNW 146 (by decide +kernel) rfl⟩
theorem d_Mkt_heard_7 : decode M_Mkt_heard.2.1 7 = .ok (.tableswitch 137 1 6 #[37, 49, 56, 60, 91, 106], 37) := by decide +kernel
theorem d_Mkt_heard_44 : decode M_Mkt_heard.2.1 44 = .ok (.iload_n 1, 1) := by decide +kernel
theorem d_Mkt_heard_45 : decode M_Mkt_heard.2.1 45 = .ok (.iconst 2, 1) := by decide +kernel
theorem d_Mkt_heard_46 : decode M_Mkt_heard.2.1 46 = .ok (.aload_n 0, 1) := by decide +kernel
theorem d_Mkt_heard_47 : decode M_Mkt_heard.2.1 47 = .ok (.getfield 49, 3) := by decide +kernel
theorem d_Mkt_heard_50 : decode M_Mkt_heard.2.1 50 = .ok (.getfield 100, 3) := by decide +kernel
theorem gf_Mkt_100 : GFn "HandshakeBinds$Market" 100 4 3 := ⟨_, _, _, rfl, by decide, i_Fac, inNW 148 (by decide +kernel) rfl⟩
theorem d_Mkt_heard_53 : decode M_Mkt_heard.2.1 53 = .ok (.imul, 1) := by decide +kernel
theorem d_Mkt_heard_54 : decode M_Mkt_heard.2.1 54 = .ok (.iadd, 1) := by decide +kernel
theorem d_Mkt_heard_55 : decode M_Mkt_heard.2.1 55 = .ok (.ireturn, 1) := by decide +kernel
theorem d_Mkt_heard_56 : decode M_Mkt_heard.2.1 56 = .ok (.iload_n 1, 1) := by decide +kernel
theorem d_Mkt_heard_57 : decode M_Mkt_heard.2.1 57 = .ok (.iload_n 1, 1) := by decide +kernel
theorem d_Mkt_heard_58 : decode M_Mkt_heard.2.1 58 = .ok (.bipush 6, 2) := by decide +kernel
theorem d_Mkt_heard_60 : decode M_Mkt_heard.2.1 60 = .ok (.idiv, 1) := by decide +kernel
theorem d_Mkt_heard_61 : decode M_Mkt_heard.2.1 61 = .ok (.isub, 1) := by decide +kernel
theorem d_Mkt_heard_62 : decode M_Mkt_heard.2.1 62 = .ok (.ireturn, 1) := by decide +kernel
theorem d_Mkt_heard_63 : decode M_Mkt_heard.2.1 63 = .ok (.iload_n 1, 1) := by decide +kernel
theorem d_Mkt_heard_64 : decode M_Mkt_heard.2.1 64 = .ok (.iconst 2, 1) := by decide +kernel
theorem d_Mkt_heard_65 : decode M_Mkt_heard.2.1 65 = .ok (.idiv, 1) := by decide +kernel
theorem d_Mkt_heard_66 : decode M_Mkt_heard.2.1 66 = .ok (.ireturn, 1) := by decide +kernel
theorem d_Mkt_heard_67 : decode M_Mkt_heard.2.1 67 = .ok (.aload_n 0, 1) := by decide +kernel
theorem d_Mkt_heard_68 : decode M_Mkt_heard.2.1 68 = .ok (.getfield 49, 3) := by decide +kernel
theorem d_Mkt_heard_71 : decode M_Mkt_heard.2.1 71 = .ok (.getfield 106, 3) := by decide +kernel
theorem gf_Mkt_106 : GFn "HandshakeBinds$Market" 106 4 5 := ⟨_, _, _, rfl, by decide, i_Fac, inNW 153 (by decide +kernel) rfl⟩
theorem d_Mkt_heard_74 : decode M_Mkt_heard.2.1 74 = .ok (.bipush 7, 2) := by decide +kernel
theorem d_Mkt_heard_76 : decode M_Mkt_heard.2.1 76 = .ok (.irem, 1) := by decide +kernel
theorem d_Mkt_heard_77 : decode M_Mkt_heard.2.1 77 = .ok (.bipush 6, 2) := by decide +kernel
theorem d_Mkt_heard_79 : decode M_Mkt_heard.2.1 79 = .ok (.if_icmp .ne 7, 3) := by decide +kernel
theorem d_Mkt_heard_86 : decode M_Mkt_heard.2.1 86 = .ok (.iload_n 1, 1) := by decide +kernel
theorem d_Mkt_heard_87 : decode M_Mkt_heard.2.1 87 = .ok (.iconst 2, 1) := by decide +kernel
theorem d_Mkt_heard_88 : decode M_Mkt_heard.2.1 88 = .ok (.aload_n 0, 1) := by decide +kernel
theorem d_Mkt_heard_89 : decode M_Mkt_heard.2.1 89 = .ok (.getfield 49, 3) := by decide +kernel
theorem d_Mkt_heard_92 : decode M_Mkt_heard.2.1 92 = .ok (.getfield 100, 3) := by decide +kernel
theorem d_Mkt_heard_95 : decode M_Mkt_heard.2.1 95 = .ok (.imul, 1) := by decide +kernel
theorem d_Mkt_heard_96 : decode M_Mkt_heard.2.1 96 = .ok (.iadd, 1) := by decide +kernel
theorem d_Mkt_heard_97 : decode M_Mkt_heard.2.1 97 = .ok (.ireturn, 1) := by decide +kernel
theorem d_Mkt_heard_82 : decode M_Mkt_heard.2.1 82 = .ok (.iconst 0, 1) := by decide +kernel
theorem d_Mkt_heard_83 : decode M_Mkt_heard.2.1 83 = .ok (.goto 14, 3) := by decide +kernel
theorem d_Mkt_heard_98 : decode M_Mkt_heard.2.1 98 = .ok (.iload_n 1, 1) := by decide +kernel
theorem d_Mkt_heard_99 : decode M_Mkt_heard.2.1 99 = .ok (.iload_n 1, 1) := by decide +kernel
theorem d_Mkt_heard_100 : decode M_Mkt_heard.2.1 100 = .ok (.bipush 6, 2) := by decide +kernel
theorem d_Mkt_heard_102 : decode M_Mkt_heard.2.1 102 = .ok (.idiv, 1) := by decide +kernel
theorem d_Mkt_heard_103 : decode M_Mkt_heard.2.1 103 = .ok (.isub, 1) := by decide +kernel
theorem d_Mkt_heard_104 : decode M_Mkt_heard.2.1 104 = .ok (.aload_n 0, 1) := by decide +kernel
theorem d_Mkt_heard_105 : decode M_Mkt_heard.2.1 105 = .ok (.getfield 49, 3) := by decide +kernel
theorem d_Mkt_heard_108 : decode M_Mkt_heard.2.1 108 = .ok (.getfield 100, 3) := by decide +kernel
theorem d_Mkt_heard_111 : decode M_Mkt_heard.2.1 111 = .ok (.isub, 1) := by decide +kernel
theorem d_Mkt_heard_112 : decode M_Mkt_heard.2.1 112 = .ok (.ireturn, 1) := by decide +kernel
theorem d_Mkt_heard_113 : decode M_Mkt_heard.2.1 113 = .ok (.iload_n 1, 1) := by decide +kernel
theorem d_Mkt_heard_114 : decode M_Mkt_heard.2.1 114 = .ok (.iconst 2, 1) := by decide +kernel
theorem d_Mkt_heard_115 : decode M_Mkt_heard.2.1 115 = .ok (.idiv, 1) := by decide +kernel
theorem d_Mkt_heard_116 : decode M_Mkt_heard.2.1 116 = .ok (.aload_n 0, 1) := by decide +kernel
theorem d_Mkt_heard_117 : decode M_Mkt_heard.2.1 117 = .ok (.getfield 25, 3) := by decide +kernel
theorem gf_Mkt_25 : GF "HandshakeBinds$Market" 25 1 3 := ⟨_, _, _, rfl, by decide, i_Mkt, inTB 173 (by decide +kernel) rfl⟩
theorem d_Mkt_heard_120 : decode M_Mkt_heard.2.1 120 = .ok (.aload_n 0, 1) := by decide +kernel
theorem d_Mkt_heard_121 : decode M_Mkt_heard.2.1 121 = .ok (.getfield 49, 3) := by decide +kernel
theorem d_Mkt_heard_124 : decode M_Mkt_heard.2.1 124 = .ok (.getfield 91, 3) := by decide +kernel
theorem gf_Mkt_91 : GFn "HandshakeBinds$Market" 91 4 0 := ⟨_, _, _, rfl, by decide, i_Fac, inNW 142 (by decide +kernel) rfl⟩
theorem d_Mkt_heard_127 : decode M_Mkt_heard.2.1 127 = .ok (.iconst 4, 1) := by decide +kernel
theorem d_Mkt_heard_128 : decode M_Mkt_heard.2.1 128 = .ok (.imul, 1) := by decide +kernel
theorem d_Mkt_heard_129 : decode M_Mkt_heard.2.1 129 = .ok (.aload_n 0, 1) := by decide +kernel
theorem d_Mkt_heard_130 : decode M_Mkt_heard.2.1 130 = .ok (.getfield 49, 3) := by decide +kernel
theorem d_Mkt_heard_133 : decode M_Mkt_heard.2.1 133 = .ok (.getfield 106, 3) := by decide +kernel
theorem d_Mkt_heard_136 : decode M_Mkt_heard.2.1 136 = .ok (.iconst 4, 1) := by decide +kernel
theorem d_Mkt_heard_137 : decode M_Mkt_heard.2.1 137 = .ok (.irem, 1) := by decide +kernel
theorem d_Mkt_heard_138 : decode M_Mkt_heard.2.1 138 = .ok (.iadd, 1) := by decide +kernel
theorem d_Mkt_heard_139 : decode M_Mkt_heard.2.1 139 = .ok (.invokestatic 83, 3) := by decide +kernel
theorem ln_Mkt_83 : Cond.methodLinkNest "HandshakeBinds$Market" 83 M_HB_at.1 "HandshakeBinds" ∈ NW := inNW 438 (by decide +kernel) rfl
theorem d_Mkt_heard_142 : decode M_Mkt_heard.2.1 142 = .ok (.iadd, 1) := by decide +kernel
theorem d_Mkt_heard_143 : decode M_Mkt_heard.2.1 143 = .ok (.ireturn, 1) := by decide +kernel
theorem d_Mkt_heard_144 : decode M_Mkt_heard.2.1 144 = .ok (.iload_n 1, 1) := by decide +kernel
theorem d_Mkt_heard_145 : decode M_Mkt_heard.2.1 145 = .ok (.ireturn, 1) := by decide +kernel
def M_Mkt_readWith : XM := (⟨"HandshakeBinds$Market", "readWith", "(LHandshakeBinds$Exchange;IIIII)I"⟩, prog_6_method_5_code, 8, (some .int))
theorem d_Mkt_readWith_0 : decode M_Mkt_readWith.2.1 0 = .ok (.aload_n 0, 1) := by decide +kernel
theorem d_Mkt_readWith_1 : decode M_Mkt_readWith.2.1 1 = .ok (.getfield 49, 3) := by decide +kernel
theorem d_Mkt_readWith_4 : decode M_Mkt_readWith.2.1 4 = .ok (.iload_n 2, 1) := by decide +kernel
theorem d_Mkt_readWith_5 : decode M_Mkt_readWith.2.1 5 = .ok (.putfield 91, 3) := by decide +kernel
theorem pf_Mkt_91 : PFn "HandshakeBinds$Market" 91 4 0 (.int) := ⟨_, _, _, t_Fac, rfl, by decide, i_Fac, t_Fac_ok, n_Fac, inNW 142 (by decide +kernel) rfl, rfl, t_Fac_ok 0 (by decide)⟩
theorem d_Mkt_readWith_8 : decode M_Mkt_readWith.2.1 8 = .ok (.aload_n 0, 1) := by decide +kernel
theorem d_Mkt_readWith_9 : decode M_Mkt_readWith.2.1 9 = .ok (.getfield 49, 3) := by decide +kernel
theorem d_Mkt_readWith_12 : decode M_Mkt_readWith.2.1 12 = .ok (.iload 4, 2) := by decide +kernel
theorem d_Mkt_readWith_14 : decode M_Mkt_readWith.2.1 14 = .ok (.putfield 94, 3) := by decide +kernel
theorem pf_Mkt_94 : PFn "HandshakeBinds$Market" 94 4 1 (.int) := ⟨_, _, _, t_Fac, rfl, by decide, i_Fac, t_Fac_ok, n_Fac, inNW 144 (by decide +kernel) rfl, rfl, t_Fac_ok 1 (by decide)⟩
theorem d_Mkt_readWith_17 : decode M_Mkt_readWith.2.1 17 = .ok (.aload_n 0, 1) := by decide +kernel
theorem d_Mkt_readWith_18 : decode M_Mkt_readWith.2.1 18 = .ok (.getfield 49, 3) := by decide +kernel
theorem d_Mkt_readWith_21 : decode M_Mkt_readWith.2.1 21 = .ok (.aload_n 0, 1) := by decide +kernel
theorem d_Mkt_readWith_22 : decode M_Mkt_readWith.2.1 22 = .ok (.getfield 18, 3) := by decide +kernel
theorem d_Mkt_readWith_25 : decode M_Mkt_readWith.2.1 25 = .ok (.iload_n 2, 1) := by decide +kernel
theorem d_Mkt_readWith_26 : decode M_Mkt_readWith.2.1 26 = .ok (.invokestatic 83, 3) := by decide +kernel
theorem d_Mkt_readWith_29 : decode M_Mkt_readWith.2.1 29 = .ok (.putfield 97, 3) := by decide +kernel
theorem pf_Mkt_97 : PFn "HandshakeBinds$Market" 97 4 2 (.int) := ⟨_, _, _, t_Fac, rfl, by decide, i_Fac, t_Fac_ok, n_Fac, inNW 146 (by decide +kernel) rfl, rfl, t_Fac_ok 2 (by decide)⟩
theorem d_Mkt_readWith_32 : decode M_Mkt_readWith.2.1 32 = .ok (.aload_n 0, 1) := by decide +kernel
theorem d_Mkt_readWith_33 : decode M_Mkt_readWith.2.1 33 = .ok (.getfield 49, 3) := by decide +kernel
theorem d_Mkt_readWith_36 : decode M_Mkt_readWith.2.1 36 = .ok (.iload_n 3, 1) := by decide +kernel
theorem d_Mkt_readWith_37 : decode M_Mkt_readWith.2.1 37 = .ok (.putfield 100, 3) := by decide +kernel
theorem pf_Mkt_100 : PFn "HandshakeBinds$Market" 100 4 3 (.int) := ⟨_, _, _, t_Fac, rfl, by decide, i_Fac, t_Fac_ok, n_Fac, inNW 148 (by decide +kernel) rfl, rfl, t_Fac_ok 3 (by decide)⟩
theorem d_Mkt_readWith_40 : decode M_Mkt_readWith.2.1 40 = .ok (.aload_n 0, 1) := by decide +kernel
theorem d_Mkt_readWith_41 : decode M_Mkt_readWith.2.1 41 = .ok (.getfield 49, 3) := by decide +kernel
theorem d_Mkt_readWith_44 : decode M_Mkt_readWith.2.1 44 = .ok (.iload 5, 2) := by decide +kernel
theorem d_Mkt_readWith_46 : decode M_Mkt_readWith.2.1 46 = .ok (.putfield 103, 3) := by decide +kernel
theorem pf_Mkt_103 : PFn "HandshakeBinds$Market" 103 4 4 (.int) := ⟨_, _, _, t_Fac, rfl, by decide, i_Fac, t_Fac_ok, n_Fac, inNW 150 (by decide +kernel) rfl, rfl, t_Fac_ok 4 (by decide)⟩
theorem d_Mkt_readWith_49 : decode M_Mkt_readWith.2.1 49 = .ok (.aload_n 0, 1) := by decide +kernel
theorem d_Mkt_readWith_50 : decode M_Mkt_readWith.2.1 50 = .ok (.getfield 49, 3) := by decide +kernel
theorem d_Mkt_readWith_53 : decode M_Mkt_readWith.2.1 53 = .ok (.iload 6, 2) := by decide +kernel
theorem d_Mkt_readWith_55 : decode M_Mkt_readWith.2.1 55 = .ok (.putfield 106, 3) := by decide +kernel
theorem pf_Mkt_106 : PFn "HandshakeBinds$Market" 106 4 5 (.int) := ⟨_, _, _, t_Fac, rfl, by decide, i_Fac, t_Fac_ok, n_Fac, inNW 153 (by decide +kernel) rfl, rfl, t_Fac_ok 5 (by decide)⟩
theorem d_Mkt_readWith_58 : decode M_Mkt_readWith.2.1 58 = .ok (.aload_n 0, 1) := by decide +kernel
theorem d_Mkt_readWith_59 : decode M_Mkt_readWith.2.1 59 = .ok (.aload_n 1, 1) := by decide +kernel
theorem d_Mkt_readWith_60 : decode M_Mkt_readWith.2.1 60 = .ok (.aload_n 0, 1) := by decide +kernel
theorem d_Mkt_readWith_61 : decode M_Mkt_readWith.2.1 61 = .ok (.getfield 49, 3) := by decide +kernel
theorem d_Mkt_readWith_64 : decode M_Mkt_readWith.2.1 64 = .ok (.invokevirtual 107, 3) := by decide +kernel
theorem ln_Mkt_107 : Cond.methodLink "HandshakeBinds$Market" 107 M_Exc_force.1 ∈ TB := inTB 443 (by decide +kernel) rfl
theorem lk_Exc_force : LVt M_Exc_force 1 := ⟨⟨inTB 69 (by decide +kernel) rfl, inTB 446 (by decide +kernel) rfl, ⟨by decide, by decide, by decide +kernel⟩, by decide⟩, inTB 444 (by decide +kernel) rfl, inTB 445 (by decide +kernel) rfl⟩
theorem d_Mkt_readWith_67 : decode M_Mkt_readWith.2.1 67 = .ok (.invokevirtual 113, 3) := by decide +kernel
theorem ln_Mkt_113 : Cond.methodLink "HandshakeBinds$Market" 113 M_Mkt_heard.1 ∈ TB := inTB 460 (by decide +kernel) rfl
theorem lk_Mkt_heard : LVt M_Mkt_heard 1 := ⟨⟨inTB 63 (by decide +kernel) rfl, inTB 463 (by decide +kernel) rfl, ⟨by decide, by decide, by decide +kernel⟩, by decide⟩, inTB 462 (by decide +kernel) rfl, inTB 7 (by decide +kernel) rfl⟩
theorem d_Mkt_readWith_70 : decode M_Mkt_readWith.2.1 70 = .ok (.istore 7, 2) := by decide +kernel
theorem d_Mkt_readWith_72 : decode M_Mkt_readWith.2.1 72 = .ok (.iload 7, 2) := by decide +kernel
theorem d_Mkt_readWith_74 : decode M_Mkt_readWith.2.1 74 = .ok (.aload_n 1, 1) := by decide +kernel
theorem d_Mkt_readWith_75 : decode M_Mkt_readWith.2.1 75 = .ok (.getfield 117, 3) := by decide +kernel
theorem gf_Mkt_117 : GFn "HandshakeBinds$Market" 117 5 5 := ⟨_, _, _, rfl, by decide, i_Exc, inNW 231 (by decide +kernel) rfl⟩
theorem d_Mkt_readWith_78 : decode M_Mkt_readWith.2.1 78 = .ok (.if_icmp .ge 7, 3) := by decide +kernel
theorem d_Mkt_readWith_85 : decode M_Mkt_readWith.2.1 85 = .ok (.iload 7, 2) := by decide +kernel
theorem d_Mkt_readWith_87 : decode M_Mkt_readWith.2.1 87 = .ok (.ireturn, 1) := by decide +kernel
theorem d_Mkt_readWith_81 : decode M_Mkt_readWith.2.1 81 = .ok (.iconst 0, 1) := by decide +kernel
theorem d_Mkt_readWith_82 : decode M_Mkt_readWith.2.1 82 = .ok (.goto 5, 3) := by decide +kernel
def M_Mkt_readAs : XM := (⟨"HandshakeBinds$Market", "readAs", "(LHandshakeBinds$Exchange;IIII)I"⟩, prog_6_method_4_code, 6, (some .int))
theorem d_Mkt_readAs_0 : decode M_Mkt_readAs.2.1 0 = .ok (.aload_n 0, 1) := by decide +kernel
theorem d_Mkt_readAs_1 : decode M_Mkt_readAs.2.1 1 = .ok (.aload_n 1, 1) := by decide +kernel
theorem d_Mkt_readAs_2 : decode M_Mkt_readAs.2.1 2 = .ok (.iload_n 2, 1) := by decide +kernel
theorem d_Mkt_readAs_3 : decode M_Mkt_readAs.2.1 3 = .ok (.aload_n 0, 1) := by decide +kernel
theorem d_Mkt_readAs_4 : decode M_Mkt_readAs.2.1 4 = .ok (.getfield 22, 3) := by decide +kernel
theorem d_Mkt_readAs_7 : decode M_Mkt_readAs.2.1 7 = .ok (.iload_n 2, 1) := by decide +kernel
theorem d_Mkt_readAs_8 : decode M_Mkt_readAs.2.1 8 = .ok (.invokestatic 83, 3) := by decide +kernel
theorem d_Mkt_readAs_11 : decode M_Mkt_readAs.2.1 11 = .ok (.iload_n 3, 1) := by decide +kernel
theorem d_Mkt_readAs_12 : decode M_Mkt_readAs.2.1 12 = .ok (.iload 4, 2) := by decide +kernel
theorem d_Mkt_readAs_14 : decode M_Mkt_readAs.2.1 14 = .ok (.iload 5, 2) := by decide +kernel
theorem d_Mkt_readAs_16 : decode M_Mkt_readAs.2.1 16 = .ok (.invokevirtual 87, 3) := by decide +kernel
theorem ln_Mkt_87 : Cond.methodLink "HandshakeBinds$Market" 87 M_Mkt_readWith.1 ∈ TB := inTB 439 (by decide +kernel) rfl
theorem lk_Mkt_readWith : LVt M_Mkt_readWith 6 := ⟨⟨inTB 63 (by decide +kernel) rfl, inTB 442 (by decide +kernel) rfl, ⟨by decide, by decide, by decide +kernel⟩, by decide⟩, inTB 441 (by decide +kernel) rfl, inTB 4 (by decide +kernel) rfl⟩
theorem d_Mkt_readAs_19 : decode M_Mkt_readAs.2.1 19 = .ok (.ireturn, 1) := by decide +kernel
def M_Mkt_readAll : XM := (⟨"HandshakeBinds$Market", "readAll", "(LHandshakeBinds$Exchange;II)V"⟩, prog_6_method_7_code, 5, none)
theorem d_Mkt_readAll_0 : decode M_Mkt_readAll.2.1 0 = .ok (.iconst 0, 1) := by decide +kernel
theorem d_Mkt_readAll_1 : decode M_Mkt_readAll.2.1 1 = .ok (.istore 4, 2) := by decide +kernel
theorem d_Mkt_readAll_3 : decode M_Mkt_readAll.2.1 3 = .ok (.iload 4, 2) := by decide +kernel
theorem d_Mkt_readAll_5 : decode M_Mkt_readAll.2.1 5 = .ok (.aload_n 0, 1) := by decide +kernel
theorem d_Mkt_readAll_6 : decode M_Mkt_readAll.2.1 6 = .ok (.getfield 43, 3) := by decide +kernel
theorem gf_Mkt_43 : GF "HandshakeBinds$Market" 43 1 7 := ⟨_, _, _, rfl, by decide, i_Mkt, inTB 181 (by decide +kernel) rfl⟩
theorem d_Mkt_readAll_9 : decode M_Mkt_readAll.2.1 9 = .ok (.arraylength, 1) := by decide +kernel
theorem d_Mkt_readAll_10 : decode M_Mkt_readAll.2.1 10 = .ok (.if_icmp .ge 29, 3) := by decide +kernel
theorem d_Mkt_readAll_39 : decode M_Mkt_readAll.2.1 39 = .ok (.return_, 1) := by decide +kernel
theorem d_Mkt_readAll_13 : decode M_Mkt_readAll.2.1 13 = .ok (.aload_n 0, 1) := by decide +kernel
theorem d_Mkt_readAll_14 : decode M_Mkt_readAll.2.1 14 = .ok (.getfield 43, 3) := by decide +kernel
theorem d_Mkt_readAll_17 : decode M_Mkt_readAll.2.1 17 = .ok (.iload 4, 2) := by decide +kernel
theorem d_Mkt_readAll_19 : decode M_Mkt_readAll.2.1 19 = .ok (.aload_n 0, 1) := by decide +kernel
theorem d_Mkt_readAll_20 : decode M_Mkt_readAll.2.1 20 = .ok (.aload_n 1, 1) := by decide +kernel
theorem d_Mkt_readAll_21 : decode M_Mkt_readAll.2.1 21 = .ok (.iload_n 2, 1) := by decide +kernel
theorem d_Mkt_readAll_22 : decode M_Mkt_readAll.2.1 22 = .ok (.iload_n 3, 1) := by decide +kernel
theorem d_Mkt_readAll_23 : decode M_Mkt_readAll.2.1 23 = .ok (.iload 4, 2) := by decide +kernel
theorem d_Mkt_readAll_25 : decode M_Mkt_readAll.2.1 25 = .ok (.aload_n 0, 1) := by decide +kernel
theorem d_Mkt_readAll_26 : decode M_Mkt_readAll.2.1 26 = .ok (.getfield 70, 3) := by decide +kernel
theorem gf_Mkt_70 : GF "HandshakeBinds$Market" 70 1 9 := ⟨_, _, _, rfl, by decide, i_Mkt, inTB 183 (by decide +kernel) rfl⟩
theorem d_Mkt_readAll_29 : decode M_Mkt_readAll.2.1 29 = .ok (.invokevirtual 120, 3) := by decide +kernel
theorem ln_Mkt_120 : Cond.methodLink "HandshakeBinds$Market" 120 M_Mkt_readAs.1 ∈ TB := inTB 479 (by decide +kernel) rfl
theorem lk_Mkt_readAs : LVt M_Mkt_readAs 5 := ⟨⟨inTB 63 (by decide +kernel) rfl, inTB 437 (by decide +kernel) rfl, ⟨by decide, by decide, by decide +kernel⟩, by decide⟩, inTB 435 (by decide +kernel) rfl, inTB 436 (by decide +kernel) rfl⟩
theorem d_Mkt_readAll_32 : decode M_Mkt_readAll.2.1 32 = .ok (.iastore, 1) := by decide +kernel
theorem d_Mkt_readAll_33 : decode M_Mkt_readAll.2.1 33 = .ok (.iinc 4 1, 3) := by decide +kernel
theorem d_Mkt_readAll_36 : decode M_Mkt_readAll.2.1 36 = .ok (.goto (-33), 3) := by decide +kernel
def M_Mkt_squeezesFor : XM := (⟨"HandshakeBinds$Market", "squeezesFor", "(I)I"⟩, prog_6_method_8_code, 4, (some .int))
theorem d_Mkt_squeezesFor_0 : decode M_Mkt_squeezesFor.2.1 0 = .ok (.iconst 0, 1) := by decide +kernel
theorem d_Mkt_squeezesFor_1 : decode M_Mkt_squeezesFor.2.1 1 = .ok (.istore_n 2, 1) := by decide +kernel
theorem d_Mkt_squeezesFor_2 : decode M_Mkt_squeezesFor.2.1 2 = .ok (.iconst 0, 1) := by decide +kernel
theorem d_Mkt_squeezesFor_3 : decode M_Mkt_squeezesFor.2.1 3 = .ok (.istore_n 3, 1) := by decide +kernel
theorem d_Mkt_squeezesFor_4 : decode M_Mkt_squeezesFor.2.1 4 = .ok (.iload_n 3, 1) := by decide +kernel
theorem d_Mkt_squeezesFor_5 : decode M_Mkt_squeezesFor.2.1 5 = .ok (.aload_n 0, 1) := by decide +kernel
theorem d_Mkt_squeezesFor_6 : decode M_Mkt_squeezesFor.2.1 6 = .ok (.getfield 43, 3) := by decide +kernel
theorem d_Mkt_squeezesFor_9 : decode M_Mkt_squeezesFor.2.1 9 = .ok (.arraylength, 1) := by decide +kernel
theorem d_Mkt_squeezesFor_10 : decode M_Mkt_squeezesFor.2.1 10 = .ok (.if_icmp .ge 22, 3) := by decide +kernel
theorem d_Mkt_squeezesFor_32 : decode M_Mkt_squeezesFor.2.1 32 = .ok (.iload_n 2, 1) := by decide +kernel
theorem d_Mkt_squeezesFor_33 : decode M_Mkt_squeezesFor.2.1 33 = .ok (.ireturn, 1) := by decide +kernel
theorem d_Mkt_squeezesFor_13 : decode M_Mkt_squeezesFor.2.1 13 = .ok (.aload_n 0, 1) := by decide +kernel
theorem d_Mkt_squeezesFor_14 : decode M_Mkt_squeezesFor.2.1 14 = .ok (.getfield 43, 3) := by decide +kernel
theorem d_Mkt_squeezesFor_17 : decode M_Mkt_squeezesFor.2.1 17 = .ok (.iload_n 3, 1) := by decide +kernel
theorem d_Mkt_squeezesFor_18 : decode M_Mkt_squeezesFor.2.1 18 = .ok (.iaload, 1) := by decide +kernel
theorem d_Mkt_squeezesFor_19 : decode M_Mkt_squeezesFor.2.1 19 = .ok (.iload_n 1, 1) := by decide +kernel
theorem d_Mkt_squeezesFor_20 : decode M_Mkt_squeezesFor.2.1 20 = .ok (.if_icmp .ne 6, 3) := by decide +kernel
theorem d_Mkt_squeezesFor_26 : decode M_Mkt_squeezesFor.2.1 26 = .ok (.iinc 3 1, 3) := by decide +kernel
theorem d_Mkt_squeezesFor_29 : decode M_Mkt_squeezesFor.2.1 29 = .ok (.goto (-25), 3) := by decide +kernel
theorem d_Mkt_squeezesFor_23 : decode M_Mkt_squeezesFor.2.1 23 = .ok (.iinc 2 1, 3) := by decide +kernel
def M_Mkt_leastFor : XM := (⟨"HandshakeBinds$Market", "leastFor", "(I)I"⟩, prog_6_method_9_code, 3, (some .int))
theorem d_Mkt_leastFor_0 : decode M_Mkt_leastFor.2.1 0 = .ok (.iconst 0, 1) := by decide +kernel
theorem d_Mkt_leastFor_1 : decode M_Mkt_leastFor.2.1 1 = .ok (.istore_n 2, 1) := by decide +kernel
theorem d_Mkt_leastFor_2 : decode M_Mkt_leastFor.2.1 2 = .ok (.iload_n 2, 1) := by decide +kernel
theorem d_Mkt_leastFor_3 : decode M_Mkt_leastFor.2.1 3 = .ok (.aload_n 0, 1) := by decide +kernel
theorem d_Mkt_leastFor_4 : decode M_Mkt_leastFor.2.1 4 = .ok (.getfield 43, 3) := by decide +kernel
theorem d_Mkt_leastFor_7 : decode M_Mkt_leastFor.2.1 7 = .ok (.arraylength, 1) := by decide +kernel
theorem d_Mkt_leastFor_8 : decode M_Mkt_leastFor.2.1 8 = .ok (.if_icmp .ge 21, 3) := by decide +kernel
theorem d_Mkt_leastFor_29 : decode M_Mkt_leastFor.2.1 29 = .ok (.bipush (-5), 2) := by decide +kernel
theorem d_Mkt_leastFor_31 : decode M_Mkt_leastFor.2.1 31 = .ok (.ireturn, 1) := by decide +kernel
theorem d_Mkt_leastFor_11 : decode M_Mkt_leastFor.2.1 11 = .ok (.aload_n 0, 1) := by decide +kernel
theorem d_Mkt_leastFor_12 : decode M_Mkt_leastFor.2.1 12 = .ok (.getfield 43, 3) := by decide +kernel
theorem d_Mkt_leastFor_15 : decode M_Mkt_leastFor.2.1 15 = .ok (.iload_n 2, 1) := by decide +kernel
theorem d_Mkt_leastFor_16 : decode M_Mkt_leastFor.2.1 16 = .ok (.iaload, 1) := by decide +kernel
theorem d_Mkt_leastFor_17 : decode M_Mkt_leastFor.2.1 17 = .ok (.iload_n 1, 1) := by decide +kernel
theorem d_Mkt_leastFor_18 : decode M_Mkt_leastFor.2.1 18 = .ok (.if_icmp .ne 5, 3) := by decide +kernel
theorem d_Mkt_leastFor_23 : decode M_Mkt_leastFor.2.1 23 = .ok (.iinc 2 1, 3) := by decide +kernel
theorem d_Mkt_leastFor_26 : decode M_Mkt_leastFor.2.1 26 = .ok (.goto (-24), 3) := by decide +kernel
theorem d_Mkt_leastFor_21 : decode M_Mkt_leastFor.2.1 21 = .ok (.iload_n 2, 1) := by decide +kernel
theorem d_Mkt_leastFor_22 : decode M_Mkt_leastFor.2.1 22 = .ok (.ireturn, 1) := by decide +kernel
def M_Mkt_span : XM := (⟨"HandshakeBinds$Market", "span", "()I"⟩, prog_6_method_10_code, 3, (some .int))
theorem d_Mkt_span_0 : decode M_Mkt_span.2.1 0 = .ok (.iconst 0, 1) := by decide +kernel
theorem d_Mkt_span_1 : decode M_Mkt_span.2.1 1 = .ok (.istore_n 1, 1) := by decide +kernel
theorem d_Mkt_span_2 : decode M_Mkt_span.2.1 2 = .ok (.iconst 0, 1) := by decide +kernel
theorem d_Mkt_span_3 : decode M_Mkt_span.2.1 3 = .ok (.istore_n 2, 1) := by decide +kernel
theorem d_Mkt_span_4 : decode M_Mkt_span.2.1 4 = .ok (.iload_n 2, 1) := by decide +kernel
theorem d_Mkt_span_5 : decode M_Mkt_span.2.1 5 = .ok (.aload_n 0, 1) := by decide +kernel
theorem d_Mkt_span_6 : decode M_Mkt_span.2.1 6 = .ok (.getfield 43, 3) := by decide +kernel
theorem d_Mkt_span_9 : decode M_Mkt_span.2.1 9 = .ok (.arraylength, 1) := by decide +kernel
theorem d_Mkt_span_10 : decode M_Mkt_span.2.1 10 = .ok (.if_icmp .ge 35, 3) := by decide +kernel
theorem d_Mkt_span_45 : decode M_Mkt_span.2.1 45 = .ok (.iload_n 1, 1) := by decide +kernel
theorem d_Mkt_span_46 : decode M_Mkt_span.2.1 46 = .ok (.ireturn, 1) := by decide +kernel
theorem d_Mkt_span_13 : decode M_Mkt_span.2.1 13 = .ok (.aload_n 0, 1) := by decide +kernel
theorem d_Mkt_span_14 : decode M_Mkt_span.2.1 14 = .ok (.getfield 43, 3) := by decide +kernel
theorem d_Mkt_span_17 : decode M_Mkt_span.2.1 17 = .ok (.iload_n 2, 1) := by decide +kernel
theorem d_Mkt_span_18 : decode M_Mkt_span.2.1 18 = .ok (.iaload, 1) := by decide +kernel
theorem d_Mkt_span_19 : decode M_Mkt_span.2.1 19 = .ok (.ifCond .eq 20, 3) := by decide +kernel
theorem d_Mkt_span_39 : decode M_Mkt_span.2.1 39 = .ok (.iinc 2 1, 3) := by decide +kernel
theorem d_Mkt_span_42 : decode M_Mkt_span.2.1 42 = .ok (.goto (-38), 3) := by decide +kernel
theorem d_Mkt_span_22 : decode M_Mkt_span.2.1 22 = .ok (.aload_n 0, 1) := by decide +kernel
theorem d_Mkt_span_23 : decode M_Mkt_span.2.1 23 = .ok (.aload_n 0, 1) := by decide +kernel
theorem d_Mkt_span_24 : decode M_Mkt_span.2.1 24 = .ok (.getfield 43, 3) := by decide +kernel
theorem d_Mkt_span_27 : decode M_Mkt_span.2.1 27 = .ok (.iload_n 2, 1) := by decide +kernel
theorem d_Mkt_span_28 : decode M_Mkt_span.2.1 28 = .ok (.iaload, 1) := by decide +kernel
theorem d_Mkt_span_29 : decode M_Mkt_span.2.1 29 = .ok (.invokevirtual 124, 3) := by decide +kernel
theorem ln_Mkt_124 : Cond.methodLink "HandshakeBinds$Market" 124 M_Mkt_leastFor.1 ∈ TB := inTB 484 (by decide +kernel) rfl
theorem lk_Mkt_leastFor : LVt M_Mkt_leastFor 1 := ⟨⟨inTB 63 (by decide +kernel) rfl, inTB 487 (by decide +kernel) rfl, ⟨by decide, by decide, by decide +kernel⟩, by decide⟩, inTB 485 (by decide +kernel) rfl, inTB 486 (by decide +kernel) rfl⟩
theorem d_Mkt_span_32 : decode M_Mkt_span.2.1 32 = .ok (.iload_n 2, 1) := by decide +kernel
theorem d_Mkt_span_33 : decode M_Mkt_span.2.1 33 = .ok (.if_icmp .ne 6, 3) := by decide +kernel
theorem d_Mkt_span_36 : decode M_Mkt_span.2.1 36 = .ok (.iinc 1 1, 3) := by decide +kernel
def M_Mkt_seenIsSo : XM := (⟨"HandshakeBinds$Market", "seenIsSo", "(LHandshakeBinds$Exchange;II)Z"⟩, prog_6_method_11_code, 5, (some .boolean))
theorem d_Mkt_seenIsSo_0 : decode M_Mkt_seenIsSo.2.1 0 = .ok (.aload_n 0, 1) := by decide +kernel
theorem d_Mkt_seenIsSo_1 : decode M_Mkt_seenIsSo.2.1 1 = .ok (.getfield 70, 3) := by decide +kernel
theorem d_Mkt_seenIsSo_4 : decode M_Mkt_seenIsSo.2.1 4 = .ok (.aload_n 0, 1) := by decide +kernel
theorem d_Mkt_seenIsSo_5 : decode M_Mkt_seenIsSo.2.1 5 = .ok (.getfield 33, 3) := by decide +kernel
theorem gf_Mkt_33 : GF "HandshakeBinds$Market" 33 1 4 := ⟨_, _, _, rfl, by decide, i_Mkt, inTB 175 (by decide +kernel) rfl⟩
theorem d_Mkt_seenIsSo_8 : decode M_Mkt_seenIsSo.2.1 8 = .ok (.iload_n 2, 1) := by decide +kernel
theorem d_Mkt_seenIsSo_9 : decode M_Mkt_seenIsSo.2.1 9 = .ok (.iconst 3, 1) := by decide +kernel
theorem d_Mkt_seenIsSo_10 : decode M_Mkt_seenIsSo.2.1 10 = .ok (.invokevirtual 127, 3) := by decide +kernel
theorem ln_Mkt_127 : Cond.methodLink "HandshakeBinds$Market" 127 M_Rws_cell.1 ∈ TB := inTB 674 (by decide +kernel) rfl
theorem lk_Rws_cell : LVt M_Rws_cell 2 := ⟨⟨inTB 65 (by decide +kernel) rfl, inTB 668 (by decide +kernel) rfl, ⟨by decide, by decide, by decide +kernel⟩, by decide⟩, inTB 666 (by decide +kernel) rfl, inTB 667 (by decide +kernel) rfl⟩
theorem d_Mkt_seenIsSo_13 : decode M_Mkt_seenIsSo.2.1 13 = .ok (.iadd, 1) := by decide +kernel
theorem d_Mkt_seenIsSo_14 : decode M_Mkt_seenIsSo.2.1 14 = .ok (.istore 4, 2) := by decide +kernel
theorem d_Mkt_seenIsSo_16 : decode M_Mkt_seenIsSo.2.1 16 = .ok (.aload_n 0, 1) := by decide +kernel
theorem d_Mkt_seenIsSo_17 : decode M_Mkt_seenIsSo.2.1 17 = .ok (.aload_n 1, 1) := by decide +kernel
theorem d_Mkt_seenIsSo_18 : decode M_Mkt_seenIsSo.2.1 18 = .ok (.aload_n 0, 1) := by decide +kernel
theorem d_Mkt_seenIsSo_19 : decode M_Mkt_seenIsSo.2.1 19 = .ok (.getfield 33, 3) := by decide +kernel
theorem d_Mkt_seenIsSo_22 : decode M_Mkt_seenIsSo.2.1 22 = .ok (.iload_n 2, 1) := by decide +kernel
theorem d_Mkt_seenIsSo_23 : decode M_Mkt_seenIsSo.2.1 23 = .ok (.iconst 0, 1) := by decide +kernel
theorem d_Mkt_seenIsSo_24 : decode M_Mkt_seenIsSo.2.1 24 = .ok (.invokevirtual 127, 3) := by decide +kernel
theorem d_Mkt_seenIsSo_27 : decode M_Mkt_seenIsSo.2.1 27 = .ok (.iload_n 3, 1) := by decide +kernel
theorem d_Mkt_seenIsSo_28 : decode M_Mkt_seenIsSo.2.1 28 = .ok (.aload_n 0, 1) := by decide +kernel
theorem d_Mkt_seenIsSo_29 : decode M_Mkt_seenIsSo.2.1 29 = .ok (.getfield 33, 3) := by decide +kernel
theorem d_Mkt_seenIsSo_32 : decode M_Mkt_seenIsSo.2.1 32 = .ok (.iload_n 2, 1) := by decide +kernel
theorem d_Mkt_seenIsSo_33 : decode M_Mkt_seenIsSo.2.1 33 = .ok (.iconst 1, 1) := by decide +kernel
theorem d_Mkt_seenIsSo_34 : decode M_Mkt_seenIsSo.2.1 34 = .ok (.invokevirtual 127, 3) := by decide +kernel
theorem d_Mkt_seenIsSo_37 : decode M_Mkt_seenIsSo.2.1 37 = .ok (.aload_n 0, 1) := by decide +kernel
theorem d_Mkt_seenIsSo_38 : decode M_Mkt_seenIsSo.2.1 38 = .ok (.getfield 33, 3) := by decide +kernel
theorem d_Mkt_seenIsSo_41 : decode M_Mkt_seenIsSo.2.1 41 = .ok (.iload_n 2, 1) := by decide +kernel
theorem d_Mkt_seenIsSo_42 : decode M_Mkt_seenIsSo.2.1 42 = .ok (.iconst 2, 1) := by decide +kernel
theorem d_Mkt_seenIsSo_43 : decode M_Mkt_seenIsSo.2.1 43 = .ok (.invokevirtual 127, 3) := by decide +kernel
theorem d_Mkt_seenIsSo_46 : decode M_Mkt_seenIsSo.2.1 46 = .ok (.iload 4, 2) := by decide +kernel
theorem d_Mkt_seenIsSo_48 : decode M_Mkt_seenIsSo.2.1 48 = .ok (.invokevirtual 87, 3) := by decide +kernel
theorem d_Mkt_seenIsSo_51 : decode M_Mkt_seenIsSo.2.1 51 = .ok (.aload_n 0, 1) := by decide +kernel
theorem d_Mkt_seenIsSo_52 : decode M_Mkt_seenIsSo.2.1 52 = .ok (.getfield 33, 3) := by decide +kernel
theorem d_Mkt_seenIsSo_55 : decode M_Mkt_seenIsSo.2.1 55 = .ok (.iload_n 2, 1) := by decide +kernel
theorem d_Mkt_seenIsSo_56 : decode M_Mkt_seenIsSo.2.1 56 = .ok (.iconst 4, 1) := by decide +kernel
theorem d_Mkt_seenIsSo_57 : decode M_Mkt_seenIsSo.2.1 57 = .ok (.invokevirtual 127, 3) := by decide +kernel
theorem d_Mkt_seenIsSo_60 : decode M_Mkt_seenIsSo.2.1 60 = .ok (.if_icmp .ne 7, 3) := by decide +kernel
theorem d_Mkt_seenIsSo_67 : decode M_Mkt_seenIsSo.2.1 67 = .ok (.iconst 0, 1) := by decide +kernel
theorem d_Mkt_seenIsSo_68 : decode M_Mkt_seenIsSo.2.1 68 = .ok (.ireturn, 1) := by decide +kernel
theorem d_Mkt_seenIsSo_63 : decode M_Mkt_seenIsSo.2.1 63 = .ok (.iconst 1, 1) := by decide +kernel
theorem d_Mkt_seenIsSo_64 : decode M_Mkt_seenIsSo.2.1 64 = .ok (.goto 4, 3) := by decide +kernel
def M_Mkt_fitsSeen : XM := (⟨"HandshakeBinds$Market", "fitsSeen", "(LHandshakeBinds$Exchange;II)Z"⟩, prog_6_method_12_code, 5, (some .boolean))
theorem d_Mkt_fitsSeen_0 : decode M_Mkt_fitsSeen.2.1 0 = .ok (.iconst 0, 1) := by decide +kernel
theorem d_Mkt_fitsSeen_1 : decode M_Mkt_fitsSeen.2.1 1 = .ok (.istore 4, 2) := by decide +kernel
theorem d_Mkt_fitsSeen_3 : decode M_Mkt_fitsSeen.2.1 3 = .ok (.iload 4, 2) := by decide +kernel
theorem d_Mkt_fitsSeen_5 : decode M_Mkt_fitsSeen.2.1 5 = .ok (.aload_n 0, 1) := by decide +kernel
theorem d_Mkt_fitsSeen_6 : decode M_Mkt_fitsSeen.2.1 6 = .ok (.getfield 33, 3) := by decide +kernel
theorem d_Mkt_fitsSeen_9 : decode M_Mkt_fitsSeen.2.1 9 = .ok (.getfield 131, 3) := by decide +kernel
theorem gf_Mkt_131 : GFn "HandshakeBinds$Market" 131 3 1 := ⟨_, _, _, rfl, by decide, i_Rws, inNW 128 (by decide +kernel) rfl⟩
theorem d_Mkt_fitsSeen_12 : decode M_Mkt_fitsSeen.2.1 12 = .ok (.if_icmp .ge 36, 3) := by decide +kernel
theorem d_Mkt_fitsSeen_48 : decode M_Mkt_fitsSeen.2.1 48 = .ok (.iconst 1, 1) := by decide +kernel
theorem d_Mkt_fitsSeen_49 : decode M_Mkt_fitsSeen.2.1 49 = .ok (.ireturn, 1) := by decide +kernel
theorem d_Mkt_fitsSeen_15 : decode M_Mkt_fitsSeen.2.1 15 = .ok (.aload_n 0, 1) := by decide +kernel
theorem d_Mkt_fitsSeen_16 : decode M_Mkt_fitsSeen.2.1 16 = .ok (.getfield 33, 3) := by decide +kernel
theorem d_Mkt_fitsSeen_19 : decode M_Mkt_fitsSeen.2.1 19 = .ok (.iload 4, 2) := by decide +kernel
theorem d_Mkt_fitsSeen_21 : decode M_Mkt_fitsSeen.2.1 21 = .ok (.iconst 0, 1) := by decide +kernel
theorem d_Mkt_fitsSeen_22 : decode M_Mkt_fitsSeen.2.1 22 = .ok (.invokevirtual 127, 3) := by decide +kernel
theorem d_Mkt_fitsSeen_25 : decode M_Mkt_fitsSeen.2.1 25 = .ok (.iload_n 2, 1) := by decide +kernel
theorem d_Mkt_fitsSeen_26 : decode M_Mkt_fitsSeen.2.1 26 = .ok (.if_icmp .ne 16, 3) := by decide +kernel
theorem d_Mkt_fitsSeen_42 : decode M_Mkt_fitsSeen.2.1 42 = .ok (.iinc 4 1, 3) := by decide +kernel
theorem d_Mkt_fitsSeen_45 : decode M_Mkt_fitsSeen.2.1 45 = .ok (.goto (-42), 3) := by decide +kernel
theorem d_Mkt_fitsSeen_29 : decode M_Mkt_fitsSeen.2.1 29 = .ok (.aload_n 0, 1) := by decide +kernel
theorem d_Mkt_fitsSeen_30 : decode M_Mkt_fitsSeen.2.1 30 = .ok (.aload_n 1, 1) := by decide +kernel
theorem d_Mkt_fitsSeen_31 : decode M_Mkt_fitsSeen.2.1 31 = .ok (.iload 4, 2) := by decide +kernel
theorem d_Mkt_fitsSeen_33 : decode M_Mkt_fitsSeen.2.1 33 = .ok (.iload_n 3, 1) := by decide +kernel
theorem d_Mkt_fitsSeen_34 : decode M_Mkt_fitsSeen.2.1 34 = .ok (.invokevirtual 132, 3) := by decide +kernel
theorem ln_Mkt_132 : Cond.methodLink "HandshakeBinds$Market" 132 M_Mkt_seenIsSo.1 ∈ TB := inTB 683 (by decide +kernel) rfl
theorem lk_Mkt_seenIsSo : LVt M_Mkt_seenIsSo 3 := ⟨⟨inTB 63 (by decide +kernel) rfl, inTB 673 (by decide +kernel) rfl, ⟨by decide, by decide, by decide +kernel⟩, by decide⟩, inTB 671 (by decide +kernel) rfl, inTB 672 (by decide +kernel) rfl⟩
theorem d_Mkt_fitsSeen_37 : decode M_Mkt_fitsSeen.2.1 37 = .ok (.ifCond .ne 5, 3) := by decide +kernel
theorem d_Mkt_fitsSeen_40 : decode M_Mkt_fitsSeen.2.1 40 = .ok (.iconst 0, 1) := by decide +kernel
theorem d_Mkt_fitsSeen_41 : decode M_Mkt_fitsSeen.2.1 41 = .ok (.ireturn, 1) := by decide +kernel
def M_Mkt_copyFrom : XM := (⟨"HandshakeBinds$Market", "copyFrom", "(LHandshakeBinds$Market;)V"⟩, prog_6_method_2_code, 2, none)
theorem d_Mkt_copyFrom_0 : decode M_Mkt_copyFrom.2.1 0 = .ok (.aload_n 0, 1) := by decide +kernel
theorem d_Mkt_copyFrom_1 : decode M_Mkt_copyFrom.2.1 1 = .ok (.getfield 12, 3) := by decide +kernel
theorem d_Mkt_copyFrom_4 : decode M_Mkt_copyFrom.2.1 4 = .ok (.aload_n 1, 1) := by decide +kernel
theorem d_Mkt_copyFrom_5 : decode M_Mkt_copyFrom.2.1 5 = .ok (.getfield 12, 3) := by decide +kernel
theorem d_Mkt_copyFrom_8 : decode M_Mkt_copyFrom.2.1 8 = .ok (.invokevirtual 57, 3) := by decide +kernel
theorem ln_Mkt_57 : Cond.methodLink "HandshakeBinds$Market" 57 M_Led_copyFrom.1 ∈ TB := inTB 761 (by decide +kernel) rfl
theorem lk_Led_copyFrom : LVt M_Led_copyFrom 1 := ⟨⟨inTB 64 (by decide +kernel) rfl, inTB 715 (by decide +kernel) rfl, ⟨by decide, by decide, by decide +kernel⟩, by decide⟩, inTB 713 (by decide +kernel) rfl, inTB 714 (by decide +kernel) rfl⟩
theorem d_Mkt_copyFrom_11 : decode M_Mkt_copyFrom.2.1 11 = .ok (.aload_n 1, 1) := by decide +kernel
theorem d_Mkt_copyFrom_12 : decode M_Mkt_copyFrom.2.1 12 = .ok (.getfield 18, 3) := by decide +kernel
theorem d_Mkt_copyFrom_15 : decode M_Mkt_copyFrom.2.1 15 = .ok (.iconst 0, 1) := by decide +kernel
theorem d_Mkt_copyFrom_16 : decode M_Mkt_copyFrom.2.1 16 = .ok (.aload_n 0, 1) := by decide +kernel
theorem d_Mkt_copyFrom_17 : decode M_Mkt_copyFrom.2.1 17 = .ok (.getfield 18, 3) := by decide +kernel
theorem d_Mkt_copyFrom_20 : decode M_Mkt_copyFrom.2.1 20 = .ok (.iconst 0, 1) := by decide +kernel
theorem d_Mkt_copyFrom_21 : decode M_Mkt_copyFrom.2.1 21 = .ok (.aload_n 0, 1) := by decide +kernel
theorem d_Mkt_copyFrom_22 : decode M_Mkt_copyFrom.2.1 22 = .ok (.getfield 18, 3) := by decide +kernel
theorem d_Mkt_copyFrom_25 : decode M_Mkt_copyFrom.2.1 25 = .ok (.arraylength, 1) := by decide +kernel
theorem d_Mkt_copyFrom_26 : decode M_Mkt_copyFrom.2.1 26 = .ok (.invokestatic 61, 3) := by decide +kernel
theorem d_Mkt_copyFrom_29 : decode M_Mkt_copyFrom.2.1 29 = .ok (.aload_n 1, 1) := by decide +kernel
theorem d_Mkt_copyFrom_30 : decode M_Mkt_copyFrom.2.1 30 = .ok (.getfield 22, 3) := by decide +kernel
theorem d_Mkt_copyFrom_33 : decode M_Mkt_copyFrom.2.1 33 = .ok (.iconst 0, 1) := by decide +kernel
theorem d_Mkt_copyFrom_34 : decode M_Mkt_copyFrom.2.1 34 = .ok (.aload_n 0, 1) := by decide +kernel
theorem d_Mkt_copyFrom_35 : decode M_Mkt_copyFrom.2.1 35 = .ok (.getfield 22, 3) := by decide +kernel
theorem d_Mkt_copyFrom_38 : decode M_Mkt_copyFrom.2.1 38 = .ok (.iconst 0, 1) := by decide +kernel
theorem d_Mkt_copyFrom_39 : decode M_Mkt_copyFrom.2.1 39 = .ok (.aload_n 0, 1) := by decide +kernel
theorem d_Mkt_copyFrom_40 : decode M_Mkt_copyFrom.2.1 40 = .ok (.getfield 22, 3) := by decide +kernel
theorem d_Mkt_copyFrom_43 : decode M_Mkt_copyFrom.2.1 43 = .ok (.arraylength, 1) := by decide +kernel
theorem d_Mkt_copyFrom_44 : decode M_Mkt_copyFrom.2.1 44 = .ok (.invokestatic 61, 3) := by decide +kernel
theorem d_Mkt_copyFrom_47 : decode M_Mkt_copyFrom.2.1 47 = .ok (.aload_n 1, 1) := by decide +kernel
theorem d_Mkt_copyFrom_48 : decode M_Mkt_copyFrom.2.1 48 = .ok (.getfield 25, 3) := by decide +kernel
theorem d_Mkt_copyFrom_51 : decode M_Mkt_copyFrom.2.1 51 = .ok (.iconst 0, 1) := by decide +kernel
theorem d_Mkt_copyFrom_52 : decode M_Mkt_copyFrom.2.1 52 = .ok (.aload_n 0, 1) := by decide +kernel
theorem d_Mkt_copyFrom_53 : decode M_Mkt_copyFrom.2.1 53 = .ok (.getfield 25, 3) := by decide +kernel
theorem d_Mkt_copyFrom_56 : decode M_Mkt_copyFrom.2.1 56 = .ok (.iconst 0, 1) := by decide +kernel
theorem d_Mkt_copyFrom_57 : decode M_Mkt_copyFrom.2.1 57 = .ok (.aload_n 0, 1) := by decide +kernel
theorem d_Mkt_copyFrom_58 : decode M_Mkt_copyFrom.2.1 58 = .ok (.getfield 25, 3) := by decide +kernel
theorem d_Mkt_copyFrom_61 : decode M_Mkt_copyFrom.2.1 61 = .ok (.arraylength, 1) := by decide +kernel
theorem d_Mkt_copyFrom_62 : decode M_Mkt_copyFrom.2.1 62 = .ok (.invokestatic 61, 3) := by decide +kernel
theorem d_Mkt_copyFrom_65 : decode M_Mkt_copyFrom.2.1 65 = .ok (.aload_n 0, 1) := by decide +kernel
theorem d_Mkt_copyFrom_66 : decode M_Mkt_copyFrom.2.1 66 = .ok (.getfield 33, 3) := by decide +kernel
theorem d_Mkt_copyFrom_69 : decode M_Mkt_copyFrom.2.1 69 = .ok (.aload_n 1, 1) := by decide +kernel
theorem d_Mkt_copyFrom_70 : decode M_Mkt_copyFrom.2.1 70 = .ok (.getfield 33, 3) := by decide +kernel
theorem d_Mkt_copyFrom_73 : decode M_Mkt_copyFrom.2.1 73 = .ok (.invokevirtual 67, 3) := by decide +kernel
theorem ln_Mkt_67 : Cond.methodLink "HandshakeBinds$Market" 67 M_Rws_copyFrom.1 ∈ TB := inTB 763 (by decide +kernel) rfl
theorem lk_Rws_copyFrom : LVt M_Rws_copyFrom 1 := ⟨⟨inTB 65 (by decide +kernel) rfl, inTB 766 (by decide +kernel) rfl, ⟨by decide, by decide, by decide +kernel⟩, by decide⟩, inTB 764 (by decide +kernel) rfl, inTB 765 (by decide +kernel) rfl⟩
theorem d_Mkt_copyFrom_76 : decode M_Mkt_copyFrom.2.1 76 = .ok (.aload_n 0, 1) := by decide +kernel
theorem d_Mkt_copyFrom_77 : decode M_Mkt_copyFrom.2.1 77 = .ok (.getfield 37, 3) := by decide +kernel
theorem gf_Mkt_37 : GF "HandshakeBinds$Market" 37 1 5 := ⟨_, _, _, rfl, by decide, i_Mkt, inTB 177 (by decide +kernel) rfl⟩
theorem d_Mkt_copyFrom_80 : decode M_Mkt_copyFrom.2.1 80 = .ok (.aload_n 1, 1) := by decide +kernel
theorem d_Mkt_copyFrom_81 : decode M_Mkt_copyFrom.2.1 81 = .ok (.getfield 37, 3) := by decide +kernel
theorem d_Mkt_copyFrom_84 : decode M_Mkt_copyFrom.2.1 84 = .ok (.invokevirtual 67, 3) := by decide +kernel
theorem d_Mkt_copyFrom_87 : decode M_Mkt_copyFrom.2.1 87 = .ok (.aload_n 0, 1) := by decide +kernel
theorem d_Mkt_copyFrom_88 : decode M_Mkt_copyFrom.2.1 88 = .ok (.getfield 40, 3) := by decide +kernel
theorem gf_Mkt_40 : GF "HandshakeBinds$Market" 40 1 6 := ⟨_, _, _, rfl, by decide, i_Mkt, inTB 179 (by decide +kernel) rfl⟩
theorem d_Mkt_copyFrom_91 : decode M_Mkt_copyFrom.2.1 91 = .ok (.aload_n 1, 1) := by decide +kernel
theorem d_Mkt_copyFrom_92 : decode M_Mkt_copyFrom.2.1 92 = .ok (.getfield 40, 3) := by decide +kernel
theorem d_Mkt_copyFrom_95 : decode M_Mkt_copyFrom.2.1 95 = .ok (.invokevirtual 67, 3) := by decide +kernel
theorem d_Mkt_copyFrom_98 : decode M_Mkt_copyFrom.2.1 98 = .ok (.aload_n 0, 1) := by decide +kernel
theorem d_Mkt_copyFrom_99 : decode M_Mkt_copyFrom.2.1 99 = .ok (.aload_n 1, 1) := by decide +kernel
theorem d_Mkt_copyFrom_100 : decode M_Mkt_copyFrom.2.1 100 = .ok (.getfield 70, 3) := by decide +kernel
theorem d_Mkt_copyFrom_103 : decode M_Mkt_copyFrom.2.1 103 = .ok (.putfield 70, 3) := by decide +kernel
theorem pf_Mkt_70 : PF "HandshakeBinds$Market" 70 1 9 (.int) false := ⟨_, _, _, t_Mkt, rfl, by decide, i_Mkt, t_Mkt_ok, n_Mkt, inTB 183 (by decide +kernel) rfl, rfl, t_Mkt_ok 9 (by decide), fun _ => rfl⟩
theorem d_Mkt_copyFrom_106 : decode M_Mkt_copyFrom.2.1 106 = .ok (.aload_n 0, 1) := by decide +kernel
theorem d_Mkt_copyFrom_107 : decode M_Mkt_copyFrom.2.1 107 = .ok (.aload_n 1, 1) := by decide +kernel
theorem d_Mkt_copyFrom_108 : decode M_Mkt_copyFrom.2.1 108 = .ok (.getfield 53, 3) := by decide +kernel
theorem gf_Mkt_53 : GF "HandshakeBinds$Market" 53 1 10 := ⟨_, _, _, rfl, by decide, i_Mkt, inTB 185 (by decide +kernel) rfl⟩
theorem d_Mkt_copyFrom_111 : decode M_Mkt_copyFrom.2.1 111 = .ok (.putfield 53, 3) := by decide +kernel
theorem pf_Mkt_53 : PF "HandshakeBinds$Market" 53 1 10 (.int) false := ⟨_, _, _, t_Mkt, rfl, by decide, i_Mkt, t_Mkt_ok, n_Mkt, inTB 185 (by decide +kernel) rfl, rfl, t_Mkt_ok 10 (by decide), fun _ => rfl⟩
theorem d_Mkt_copyFrom_114 : decode M_Mkt_copyFrom.2.1 114 = .ok (.return_, 1) := by decide +kernel
theorem c_Mkt_join (X : Xn) (a : Nat → Nat) (ν : Nat → Nat → Nat) (σ : Nat → Nat → Int32) (τ : Nat → Nat → Int64)  (k : Int32) (v : Int32) (hn5 : ν 1 3 < 6) : Does X 3 M_Mkt_join [.ref (a 0), .int k, .int v] (KW X a ν σ τ) 0 0 (fun (vv : Option Value) (ww : va_W) => vv = some (.int (nI (ν 1 3))) ∧ ww = KW X a (pu ν 1 (u1 (ν 1) 3 ((ν 1 3) + 1))) (u2 (u2 (u2 σ 5 (upd (σ 5) (ν 1 3) k)) 6 (upd (σ 6) (ν 1 3) v)) 2 (upd (σ 2) (ν 1 3) (nI 100))) τ) := by
  generalize hQ : (fun (vv : Option Value) (ww : va_W) => vv = some (.int (nI (ν 1 3))) ∧ ww = KW X a (pu ν 1 (u1 (ν 1) 3 ((ν 1 3) + 1))) (u2 (u2 (u2 σ 5 (upd (σ 5) (ν 1 3) k)) 6 (upd (σ 6) (ν 1 3) v)) 2 (upd (σ 2) (ν 1 3) (nI 100))) τ) = Q
  refine Does.go rfl (Nat.le_of_ble_eq_true rfl) [some (.ref (a 0)), some (.int k), some (.int v), none] 1 rfl ?_
  refine r_aload_n rfl 1 rfl d_Mkt_join_0 ?_
  refine r_getf (v := .ref (a 1)) gf_Mkt_12 0 rfl rfl 4 rfl d_Mkt_join_1 ?_
  refine r_getfn (v := .int (nI (ν 1 3))) gf_Mkt_73 1 rfl rfl 7 rfl d_Mkt_join_4 ?_
  refine r_istore_n (ls2 := [some (.ref (a 0)), some (.int k), some (.int v), some (.int (nI (ν 1 3)))]) 8 rfl d_Mkt_join_7 (by decide) rfl rfl ?_
  refine r_aload_n rfl 9 rfl d_Mkt_join_8 ?_
  refine r_getf (v := .ref (a 5)) gf_Mkt_18 0 rfl rfl 12 rfl d_Mkt_join_9 ?_
  refine r_iload_n rfl 13 rfl d_Mkt_join_12 ?_
  refine r_iload_n rfl 14 rfl d_Mkt_join_13 ?_
  refine r_callSn1 (st2 := []) (w2 := KW X a ν (u2 σ 5 (upd (σ 5) (ν 1 3) k)) τ) lk_HB_put ln_Mkt_76 (c_put X _ 6 (ν 1 3) k (σ 5) (by omega) (by decide)) (by first | decide | omega) rfl rfl (Nat.le_of_ble_eq_true rfl) (Nat.le_of_ble_eq_true rfl) (Nat.le_of_ble_eq_true rfl) [5] rfl rfl rfl rfl rfl 17 rfl d_Mkt_join_14 ?_
  refine r_aload_n rfl 18 rfl d_Mkt_join_17 ?_
  refine r_getf (v := .ref (a 6)) gf_Mkt_22 0 rfl rfl 21 rfl d_Mkt_join_18 ?_
  refine r_iload_n rfl 22 rfl d_Mkt_join_21 ?_
  refine r_iload_n rfl 23 rfl d_Mkt_join_22 ?_
  refine r_callSn1 (st2 := []) (w2 := KW X a ν (u2 (u2 σ 5 (upd (σ 5) (ν 1 3) k)) 6 (upd (σ 6) (ν 1 3) v)) τ) lk_HB_put ln_Mkt_76 (c_put X _ 6 (ν 1 3) v (σ 6) (by omega) (by decide)) (by first | decide | omega) rfl rfl (Nat.le_of_ble_eq_true rfl) (Nat.le_of_ble_eq_true rfl) (Nat.le_of_ble_eq_true rfl) [6] rfl rfl rfl rfl rfl 26 rfl d_Mkt_join_23 ?_
  refine r_aload_n rfl 27 rfl d_Mkt_join_26 ?_
  refine r_getf (v := .ref (a 1)) gf_Mkt_12 0 rfl rfl 30 rfl d_Mkt_join_27 ?_
  refine r_callV1 (st2 := []) (w2 := KW X a (pu ν 1 (u1 (ν 1) 3 ((ν 1 3) + 1))) (u2 (u2 (u2 σ 5 (upd (σ 5) (ν 1 3) k)) 6 (upd (σ 6) (ν 1 3) v)) 2 (upd (σ 2) (ν 1 3) (nI 100))) τ) lk_Led_enter ln_Mkt_80 (c_Led_enter X (pl [1, 2, 3, 4] a) (pl [1, 2, 3, 4] ν) (pl [1, 2, 3, 4] (u2 (u2 σ 5 (upd (σ 5) (ν 1 3) k)) 6 (upd (σ 6) (ν 1 3) v))) (pl [1, 2, 3, 4] τ)   (hn5)) (by first | decide | omega) rfl rfl (Nat.le_of_ble_eq_true rfl) (Nat.le_of_ble_eq_true rfl) (Nat.le_of_ble_eq_true rfl) [1, 2, 3, 4] rfl rfl 0 rfl rfl rfl rfl rfl 33 rfl d_Mkt_join_30 ?_
  refine r_iload_n rfl 34 rfl d_Mkt_join_33 ?_
  exact r_iret rfl (Nat.zero_le _) (Nat.zero_le _) d_Mkt_join_34 (by rw [← hQ]; exact ⟨rfl, rfl⟩)
theorem c_Mkt_heard (X : Xn) (a : Nat → Nat) (ν : Nat → Nat → Nat) (σ : Nat → Nat → Int32) (τ : Nat → Nat → Int64) (p q : Nat) (kd v : Int32) (s d : Nat) (f : Int32) (hF : σ 15 = fF p q kd v s d) (hp : p < 6) (hd : d < 1000000) : Does X 2 M_Mkt_heard [.ref (a 0), .int f] (KW X a ν σ τ) 0 0 (fun (vv : Option Value) (ww : va_W) => vv = some (.int (hearV kd v f (σ 7) p d)) ∧ ww = KW X a ν σ τ) := by
  generalize hQ : (fun (vv : Option Value) (ww : va_W) => vv = some (.int (hearV kd v f (σ 7) p d)) ∧ ww = KW X a ν σ τ) = Q
  refine Does.go rfl (Nat.le_of_ble_eq_true rfl) [some (.ref (a 0)), some (.int f)] 0 rfl ?_
  refine r_aload_n rfl 1 rfl d_Mkt_heard_0 ?_
  refine r_getf (v := .ref (a 15)) gf_Mkt_49 0 rfl rfl 4 rfl d_Mkt_heard_1 ?_
  refine r_getfn (v := .int (σ 15 2)) gf_Mkt_97 15 rfl rfl 7 rfl d_Mkt_heard_4 ?_
  refine r_topi (kd) (by rw [hF]; rfl) ?_
  by_cases h7_1 : kd = 1
  · refine r_tableIn 44 d_Mkt_heard_7 (by rw [h7_1]; decide) (by rw [h7_1]; decide) (by rw [h7_1]; try rfl) rfl ?_
    refine r_iload_n rfl 45 rfl d_Mkt_heard_44 ?_
    refine r_iconst (nI 2) rfl 46 rfl d_Mkt_heard_45 ?_
    refine r_aload_n rfl 47 rfl d_Mkt_heard_46 ?_
    refine r_getf (v := .ref (a 15)) gf_Mkt_49 0 rfl rfl 50 rfl d_Mkt_heard_47 ?_
    refine r_getfn (v := .int (σ 15 3)) gf_Mkt_100 15 rfl rfl 53 rfl d_Mkt_heard_50 ?_
    refine r_topi (v) (by rw [hF]; rfl) ?_
    refine r_imul 54 rfl d_Mkt_heard_53 ?_
    refine r_iadd 55 rfl d_Mkt_heard_54 ?_
    exact r_iret rfl (Nat.zero_le _) (Nat.zero_le _) d_Mkt_heard_55 (by rw [← hQ]; exact ⟨by rw [hearV, if_pos h7_1], rfl⟩)
  by_cases h7_2 : kd = 2
  · refine r_tableIn 56 d_Mkt_heard_7 (by rw [h7_2]; decide) (by rw [h7_2]; decide) (by rw [h7_2]; try rfl) rfl ?_
    refine r_iload_n rfl 57 rfl d_Mkt_heard_56 ?_
    refine r_iload_n rfl 58 rfl d_Mkt_heard_57 ?_
    refine r_bipush (nI 6) rfl 60 rfl d_Mkt_heard_58 ?_
    refine r_idiv (by decide) 61 rfl d_Mkt_heard_60 ?_
    refine r_isub 62 rfl d_Mkt_heard_61 ?_
    exact r_iret rfl (Nat.zero_le _) (Nat.zero_le _) d_Mkt_heard_62 (by rw [← hQ]; exact ⟨by rw [hearV, if_neg h7_1, if_pos h7_2], rfl⟩)
  by_cases h7_3 : kd = 3
  · refine r_tableIn 63 d_Mkt_heard_7 (by rw [h7_3]; decide) (by rw [h7_3]; decide) (by rw [h7_3]; try rfl) rfl ?_
    refine r_iload_n rfl 64 rfl d_Mkt_heard_63 ?_
    refine r_iconst (nI 2) rfl 65 rfl d_Mkt_heard_64 ?_
    refine r_idiv (by decide) 66 rfl d_Mkt_heard_65 ?_
    exact r_iret rfl (Nat.zero_le _) (Nat.zero_le _) d_Mkt_heard_66 (by rw [← hQ]; exact ⟨by rw [hearV, if_neg h7_1, if_neg h7_2, if_pos h7_3], rfl⟩)
  by_cases h7_4 : kd = 4
  · refine r_tableIn 67 d_Mkt_heard_7 (by rw [h7_4]; decide) (by rw [h7_4]; decide) (by rw [h7_4]; try rfl) rfl ?_
    refine r_aload_n rfl 68 rfl d_Mkt_heard_67 ?_
    refine r_getf (v := .ref (a 15)) gf_Mkt_49 0 rfl rfl 71 rfl d_Mkt_heard_68 ?_
    refine r_getfn (v := .int (σ 15 5)) gf_Mkt_106 15 rfl rfl 74 rfl d_Mkt_heard_71 ?_
    refine r_topi (nI (d)) (by rw [hF]; rfl) ?_
    refine r_bipush (nI 7) rfl 76 rfl d_Mkt_heard_74 ?_
    refine r_irem (by decide) 77 rfl d_Mkt_heard_76 ?_
    refine r_topi (nI (d % 7)) (pk_rem (by omega) (by omega) (by omega)) ?_
    refine r_bipush (nI 6) rfl 79 rfl d_Mkt_heard_77 ?_
    refine r_icmp_neN (d % 7) 6 (by omega) (by omega) 82 86 rfl rfl d_Mkt_heard_79 (fun h79 => ?_) (fun h79 => ?_)
    · refine r_iload_n rfl 87 rfl d_Mkt_heard_86 ?_
      refine r_iconst (nI 2) rfl 88 rfl d_Mkt_heard_87 ?_
      refine r_aload_n rfl 89 rfl d_Mkt_heard_88 ?_
      refine r_getf (v := .ref (a 15)) gf_Mkt_49 0 rfl rfl 92 rfl d_Mkt_heard_89 ?_
      refine r_getfn (v := .int (σ 15 3)) gf_Mkt_100 15 rfl rfl 95 rfl d_Mkt_heard_92 ?_
      refine r_topi (v) (by rw [hF]; rfl) ?_
      refine r_imul 96 rfl d_Mkt_heard_95 ?_
      refine r_iadd 97 rfl d_Mkt_heard_96 ?_
      exact r_iret rfl (Nat.zero_le _) (Nat.zero_le _) d_Mkt_heard_97 (by rw [← hQ]; exact ⟨by rw [hearV, if_neg h7_1, if_neg h7_2, if_neg h7_3, if_pos h7_4, if_neg h79], rfl⟩)
    · refine r_iconst (nI 0) rfl 83 rfl d_Mkt_heard_82 ?_
      refine r_goto 97 rfl d_Mkt_heard_83 ?_
      exact r_iret rfl (Nat.zero_le _) (Nat.zero_le _) d_Mkt_heard_97 (by rw [← hQ]; exact ⟨by rw [hearV, if_neg h7_1, if_neg h7_2, if_neg h7_3, if_pos h7_4, if_pos h79], rfl⟩)
  by_cases h7_5 : kd = 5
  · refine r_tableIn 98 d_Mkt_heard_7 (by rw [h7_5]; decide) (by rw [h7_5]; decide) (by rw [h7_5]; try rfl) rfl ?_
    refine r_iload_n rfl 99 rfl d_Mkt_heard_98 ?_
    refine r_iload_n rfl 100 rfl d_Mkt_heard_99 ?_
    refine r_bipush (nI 6) rfl 102 rfl d_Mkt_heard_100 ?_
    refine r_idiv (by decide) 103 rfl d_Mkt_heard_102 ?_
    refine r_isub 104 rfl d_Mkt_heard_103 ?_
    refine r_aload_n rfl 105 rfl d_Mkt_heard_104 ?_
    refine r_getf (v := .ref (a 15)) gf_Mkt_49 0 rfl rfl 108 rfl d_Mkt_heard_105 ?_
    refine r_getfn (v := .int (σ 15 3)) gf_Mkt_100 15 rfl rfl 111 rfl d_Mkt_heard_108 ?_
    refine r_topi (v) (by rw [hF]; rfl) ?_
    refine r_isub 112 rfl d_Mkt_heard_111 ?_
    exact r_iret rfl (Nat.zero_le _) (Nat.zero_le _) d_Mkt_heard_112 (by rw [← hQ]; exact ⟨by rw [hearV, if_neg h7_1, if_neg h7_2, if_neg h7_3, if_neg h7_4, if_pos h7_5], rfl⟩)
  by_cases h7_6 : kd = 6
  · refine r_tableIn 113 d_Mkt_heard_7 (by rw [h7_6]; decide) (by rw [h7_6]; decide) (by rw [h7_6]; try rfl) rfl ?_
    refine r_iload_n rfl 114 rfl d_Mkt_heard_113 ?_
    refine r_iconst (nI 2) rfl 115 rfl d_Mkt_heard_114 ?_
    refine r_idiv (by decide) 116 rfl d_Mkt_heard_115 ?_
    refine r_aload_n rfl 117 rfl d_Mkt_heard_116 ?_
    refine r_getf (v := .ref (a 7)) gf_Mkt_25 0 rfl rfl 120 rfl d_Mkt_heard_117 ?_
    refine r_aload_n rfl 121 rfl d_Mkt_heard_120 ?_
    refine r_getf (v := .ref (a 15)) gf_Mkt_49 0 rfl rfl 124 rfl d_Mkt_heard_121 ?_
    refine r_getfn (v := .int (σ 15 0)) gf_Mkt_91 15 rfl rfl 127 rfl d_Mkt_heard_124 ?_
    refine r_topi (nI (p)) (by rw [hF]; rfl) ?_
    refine r_iconst (nI 4) rfl 128 rfl d_Mkt_heard_127 ?_
    refine r_imul 129 rfl d_Mkt_heard_128 ?_
    refine r_topi (nI (p * 4)) (pk_mul _ _) ?_
    refine r_aload_n rfl 130 rfl d_Mkt_heard_129 ?_
    refine r_getf (v := .ref (a 15)) gf_Mkt_49 0 rfl rfl 133 rfl d_Mkt_heard_130 ?_
    refine r_getfn (v := .int (σ 15 5)) gf_Mkt_106 15 rfl rfl 136 rfl d_Mkt_heard_133 ?_
    refine r_topi (nI (d)) (by rw [hF]; rfl) ?_
    refine r_iconst (nI 4) rfl 137 rfl d_Mkt_heard_136 ?_
    refine r_irem (by decide) 138 rfl d_Mkt_heard_137 ?_
    refine r_topi (nI (d % 4)) (pk_rem (by omega) (by omega) (by omega)) ?_
    refine r_topi (nI (d % 4)) (rfl) ?_
    refine r_iadd 139 rfl d_Mkt_heard_138 ?_
    refine r_topi (nI ((p * 4) + (d % 4))) (nI_add _ _) ?_
    refine r_topi (nI (4 * p + d % 4)) (by rw [Nat.mul_comm]) ?_
    refine r_callSn1 (st2 := [.int (σ 7 (4 * p + d % 4)), .int (f / (nI 2))]) (w2 := KW X a ν σ τ) lk_HB_at ln_Mkt_83 (c_at X _ 24 (4 * p + d % 4) (σ 7) (by omega) (by decide)) (by first | decide | omega) rfl rfl (Nat.le_of_ble_eq_true rfl) (Nat.le_of_ble_eq_true rfl) (Nat.le_of_ble_eq_true rfl) [7] rfl rfl rfl rfl rfl 142 rfl d_Mkt_heard_139 ?_
    refine r_iadd 143 rfl d_Mkt_heard_142 ?_
    exact r_iret rfl (Nat.zero_le _) (Nat.zero_le _) d_Mkt_heard_143 (by rw [← hQ]; exact ⟨by rw [hearV, if_neg h7_1, if_neg h7_2, if_neg h7_3, if_neg h7_4, if_neg h7_5, if_pos h7_6], rfl⟩)
  have t7_1 : ¬ (kd).toInt = 1 := lv_neT h7_1 (by decide)
  have t7_2 : ¬ (kd).toInt = 2 := lv_neT h7_2 (by decide)
  have t7_3 : ¬ (kd).toInt = 3 := lv_neT h7_3 (by decide)
  have t7_4 : ¬ (kd).toInt = 4 := lv_neT h7_4 (by decide)
  have t7_5 : ¬ (kd).toInt = 5 := lv_neT h7_5 (by decide)
  have t7_6 : ¬ (kd).toInt = 6 := lv_neT h7_6 (by decide)
  refine r_tableOut 144 d_Mkt_heard_7 (by omega) rfl ?_
  refine r_iload_n rfl 145 rfl d_Mkt_heard_144 ?_
  exact r_iret rfl (Nat.zero_le _) (Nat.zero_le _) d_Mkt_heard_145 (by rw [← hQ]; exact ⟨by rw [hearV, if_neg h7_1, if_neg h7_2, if_neg h7_3, if_neg h7_4, if_neg h7_5, if_neg h7_6], rfl⟩)
theorem c_Mkt_readWith (X : Xn) (a : Nat → Nat) (ν : Nat → Nat → Nat) (σ : Nat → Nat → Int32) (τ : Nat → Nat → Int64) (x : EX) (p : Nat) (v : Int32) (q : Nat) (s : Nat) (d : Nat) (hx : heldC (ν 16 4) (ν 16 5) (σ 17) (σ 18) (σ 19) x) (hp : p < 6) (hs : s ≤ 99) (hd : d < 100000) : Does X 5 M_Mkt_readWith [.ref (a 0), .ref (a 16), .int (nI p), .int v, .int (nI q), .int (nI s), .int (nI d)] (KX X a ν σ τ) 0 0 (fun (vv : Option Value) (ww : va_W) => vv = some (.int (rdV x p q ((σ 5) p) v (σ 7) s d)) ∧ ww = KX X a ν (u2 σ 15 (fF p q ((σ 5) p) v s d)) τ) := by
  generalize hQ : (fun (vv : Option Value) (ww : va_W) => vv = some (.int (rdV x p q ((σ 5) p) v (σ 7) s d)) ∧ ww = KX X a ν (u2 σ 15 (fF p q ((σ 5) p) v s d)) τ) = Q
  refine Does.go rfl (Nat.le_of_ble_eq_true rfl) [some (.ref (a 0)), some (.ref (a 16)), some (.int (nI p)), some (.int v), some (.int (nI q)), some (.int (nI s)), some (.int (nI d)), none] 1 rfl ?_
  obtain ⟨hokX, hb, cx, hC, hokC, hcl, hfx⟩ := hx
  refine r_aload_n rfl 1 rfl d_Mkt_readWith_0 ?_
  refine r_getf (v := .ref (a 15)) gf_Mkt_49 0 rfl rfl 4 rfl d_Mkt_readWith_1 ?_
  refine r_iload_n rfl 5 rfl d_Mkt_readWith_4 ?_
  refine r_putfn (w2 := KX X a ν (u2 σ 15 (upd (σ 15) 0 (nI p))) τ) pf_Mkt_91 15 rfl (rfl) rfl (Nat.le_of_ble_eq_true rfl) rfl 8 rfl d_Mkt_readWith_5 ?_
  refine r_aload_n rfl 9 rfl d_Mkt_readWith_8 ?_
  refine r_getf (v := .ref (a 15)) gf_Mkt_49 0 rfl rfl 12 rfl d_Mkt_readWith_9 ?_
  refine r_iload rfl 14 rfl d_Mkt_readWith_12 ?_
  refine r_putfn (w2 := KX X a ν (u2 (u2 σ 15 (upd (σ 15) 0 (nI p))) 15 (upd (upd (σ 15) 0 (nI p)) 1 (nI q))) τ) pf_Mkt_94 15 rfl (rfl) rfl (Nat.le_of_ble_eq_true rfl) rfl 17 rfl d_Mkt_readWith_14 ?_
  refine r_aload_n rfl 18 rfl d_Mkt_readWith_17 ?_
  refine r_getf (v := .ref (a 15)) gf_Mkt_49 0 rfl rfl 21 rfl d_Mkt_readWith_18 ?_
  refine r_aload_n rfl 22 rfl d_Mkt_readWith_21 ?_
  refine r_getf (v := .ref (a 5)) gf_Mkt_18 0 rfl rfl 25 rfl d_Mkt_readWith_22 ?_
  refine r_iload_n rfl 26 rfl d_Mkt_readWith_25 ?_
  refine r_callSn1 (st2 := [.int (σ 5 p), .ref (a 15)]) (w2 := KX X a ν (u2 (u2 σ 15 (upd (σ 15) 0 (nI p))) 15 (upd (upd (σ 15) 0 (nI p)) 1 (nI q))) τ) lk_HB_at ln_Mkt_83 (c_at X _ 6 p (σ 5) (by omega) (by decide)) (by first | decide | omega) rfl rfl (Nat.le_of_ble_eq_true rfl) (Nat.le_of_ble_eq_true rfl) (Nat.le_of_ble_eq_true rfl) [5] rfl rfl rfl rfl rfl 29 rfl d_Mkt_readWith_26 ?_
  refine r_putfn (w2 := KX X a ν (u2 (u2 (u2 σ 15 (upd (σ 15) 0 (nI p))) 15 (upd (upd (σ 15) 0 (nI p)) 1 (nI q))) 15 (upd (upd (upd (σ 15) 0 (nI p)) 1 (nI q)) 2 (σ 5 p))) τ) pf_Mkt_97 15 rfl (rfl) rfl (Nat.le_of_ble_eq_true rfl) rfl 32 rfl d_Mkt_readWith_29 ?_
  refine r_aload_n rfl 33 rfl d_Mkt_readWith_32 ?_
  refine r_getf (v := .ref (a 15)) gf_Mkt_49 0 rfl rfl 36 rfl d_Mkt_readWith_33 ?_
  refine r_iload_n rfl 37 rfl d_Mkt_readWith_36 ?_
  refine r_putfn (w2 := KX X a ν (u2 (u2 (u2 (u2 σ 15 (upd (σ 15) 0 (nI p))) 15 (upd (upd (σ 15) 0 (nI p)) 1 (nI q))) 15 (upd (upd (upd (σ 15) 0 (nI p)) 1 (nI q)) 2 (σ 5 p))) 15 (upd (upd (upd (upd (σ 15) 0 (nI p)) 1 (nI q)) 2 (σ 5 p)) 3 v)) τ) pf_Mkt_100 15 rfl (rfl) rfl (Nat.le_of_ble_eq_true rfl) rfl 40 rfl d_Mkt_readWith_37 ?_
  refine r_aload_n rfl 41 rfl d_Mkt_readWith_40 ?_
  refine r_getf (v := .ref (a 15)) gf_Mkt_49 0 rfl rfl 44 rfl d_Mkt_readWith_41 ?_
  refine r_iload rfl 46 rfl d_Mkt_readWith_44 ?_
  refine r_putfn (w2 := KX X a ν (u2 (u2 (u2 (u2 (u2 σ 15 (upd (σ 15) 0 (nI p))) 15 (upd (upd (σ 15) 0 (nI p)) 1 (nI q))) 15 (upd (upd (upd (σ 15) 0 (nI p)) 1 (nI q)) 2 (σ 5 p))) 15 (upd (upd (upd (upd (σ 15) 0 (nI p)) 1 (nI q)) 2 (σ 5 p)) 3 v)) 15 (upd (upd (upd (upd (upd (σ 15) 0 (nI p)) 1 (nI q)) 2 (σ 5 p)) 3 v) 4 (nI s))) τ) pf_Mkt_103 15 rfl (rfl) rfl (Nat.le_of_ble_eq_true rfl) rfl 49 rfl d_Mkt_readWith_46 ?_
  refine r_aload_n rfl 50 rfl d_Mkt_readWith_49 ?_
  refine r_getf (v := .ref (a 15)) gf_Mkt_49 0 rfl rfl 53 rfl d_Mkt_readWith_50 ?_
  refine r_iload rfl 55 rfl d_Mkt_readWith_53 ?_
  refine r_putfn (w2 := KX X a ν (u2 (u2 (u2 (u2 (u2 (u2 σ 15 (upd (σ 15) 0 (nI p))) 15 (upd (upd (σ 15) 0 (nI p)) 1 (nI q))) 15 (upd (upd (upd (σ 15) 0 (nI p)) 1 (nI q)) 2 (σ 5 p))) 15 (upd (upd (upd (upd (σ 15) 0 (nI p)) 1 (nI q)) 2 (σ 5 p)) 3 v)) 15 (upd (upd (upd (upd (upd (σ 15) 0 (nI p)) 1 (nI q)) 2 (σ 5 p)) 3 v) 4 (nI s))) 15 (upd (upd (upd (upd (upd (upd (σ 15) 0 (nI p)) 1 (nI q)) 2 (σ 5 p)) 3 v) 4 (nI s)) 5 (nI d))) τ) pf_Mkt_106 15 rfl (rfl) rfl (Nat.le_of_ble_eq_true rfl) rfl 58 rfl d_Mkt_readWith_55 ?_
  refine Runs.cast (w' := KX X a ν (u2 σ 15 (fF p q (σ 5 p) v s d)) τ) ?_ rfl rfl rfl
  refine r_aload_n rfl 59 rfl d_Mkt_readWith_58 ?_
  refine r_aload_n rfl 60 rfl d_Mkt_readWith_59 ?_
  refine r_aload_n rfl 61 rfl d_Mkt_readWith_60 ?_
  refine r_getf (v := .ref (a 15)) gf_Mkt_49 0 rfl rfl 64 rfl d_Mkt_readWith_61 ?_
  refine r_callV1 (st2 := [.int (fcF cx p q (σ 5 p) v s d cx.1), .ref (a 0)]) (w2 := KX X a ν (u2 σ 15 (fF p q (σ 5 p) v s d)) τ) lk_Exc_force ln_Mkt_107 (c_Exc_force X (pl [16, 17, 18, 19, 15] a) (pl [16, 17, 18, 19, 15] ν) (pl [16, 17, 18, 19, 15] (u2 σ 15 (fF p q (σ 5 p) v s d))) (pl [16, 17, 18, 19, 15] τ) cx p q (σ 5 p) v s d hC.symm hokC hcl rfl hs (by omega)) (by first | decide | omega) rfl rfl (Nat.le_of_ble_eq_true rfl) (Nat.le_of_ble_eq_true rfl) (Nat.le_of_ble_eq_true rfl) [16, 17, 18, 19, 15] rfl rfl 0 rfl rfl rfl rfl rfl 67 rfl d_Mkt_readWith_64 ?_
  refine r_topi (fx x p q (σ 5 p) v s d x.1) (by rw [hC]; exact hfx p q (σ 5 p) v s d) ?_
  refine r_callV1 (st2 := [.int (hearV (σ 5 p) v (fx x p q (σ 5 p) v s d x.1) (σ 7) p d)]) (w2 := KX X a ν (u2 σ 15 (fF p q (σ 5 p) v s d)) τ) lk_Mkt_heard ln_Mkt_113 (c_Mkt_heard X (pl [0, 1, 2, 3, 4, 5, 6, 7, 8, 9, 10, 11, 12, 13, 14, 15] a) (pl [0, 1, 2, 3, 4, 5, 6, 7, 8, 9, 10, 11, 12, 13, 14, 15] ν) (pl [0, 1, 2, 3, 4, 5, 6, 7, 8, 9, 10, 11, 12, 13, 14, 15] (u2 σ 15 (fF p q (σ 5 p) v s d))) (pl [0, 1, 2, 3, 4, 5, 6, 7, 8, 9, 10, 11, 12, 13, 14, 15] τ) p q (σ 5 p) v s d (fx x p q (σ 5 p) v s d x.1) rfl hp (by omega)) (by first | decide | omega) rfl rfl (Nat.le_of_ble_eq_true rfl) (Nat.le_of_ble_eq_true rfl) (Nat.le_of_ble_eq_true rfl) [0, 1, 2, 3, 4, 5, 6, 7, 8, 9, 10, 11, 12, 13, 14, 15] rfl rfl 0 rfl rfl rfl rfl rfl 70 rfl d_Mkt_readWith_67 ?_
  refine r_istore (ls2 := [some (.ref (a 0)), some (.ref (a 16)), some (.int (nI p)), some (.int v), some (.int (nI q)), some (.int (nI s)), some (.int (nI d)), some (.int (hearV (σ 5 p) v (fx x p q (σ 5 p) v s d x.1) (σ 7) p d))]) 72 rfl d_Mkt_readWith_70 (by decide) rfl rfl ?_
  refine r_iload rfl 74 rfl d_Mkt_readWith_72 ?_
  refine r_aload_n rfl 75 rfl d_Mkt_readWith_74 ?_
  refine r_getfn (v := .int (nI (ν 16 5))) gf_Mkt_117 16 rfl rfl 78 rfl d_Mkt_readWith_75 ?_
  refine r_icmp_ge 81 85 rfl rfl d_Mkt_readWith_78 (fun h78 => ?_) (fun h78 => ?_)
  · refine r_iload rfl 87 rfl d_Mkt_readWith_85 ?_
    exact r_iret rfl (Nat.zero_le _) (Nat.zero_le _) d_Mkt_readWith_87 (by rw [← hQ]; exact ⟨by rw [rdV, if_neg (by rw [← hb]; exact Int32.not_lt.mpr h78)], rfl⟩)
  · refine r_iconst (nI 0) rfl 82 rfl d_Mkt_readWith_81 ?_
    refine r_goto 87 rfl d_Mkt_readWith_82 ?_
    exact r_iret rfl (Nat.zero_le _) (Nat.zero_le _) d_Mkt_readWith_87 (by rw [← hQ]; exact ⟨by rw [rdV, if_pos (by rw [← hb]; exact Int32.not_le.mp h78)], rfl⟩)
theorem c_Mkt_readAs (X : Xn) (a : Nat → Nat) (ν : Nat → Nat → Nat) (σ : Nat → Nat → Int32) (τ : Nat → Nat → Int64) (x : EX) (p : Nat) (q : Nat) (s : Nat) (d : Nat) (hx : heldC (ν 16 4) (ν 16 5) (σ 17) (σ 18) (σ 19) x) (hp : p < 6) (hs : s ≤ 99) (hd : d < 100000) : Does X 6 M_Mkt_readAs [.ref (a 0), .ref (a 16), .int (nI p), .int (nI q), .int (nI s), .int (nI d)] (KX X a ν σ τ) 0 0 (fun (vv : Option Value) (ww : va_W) => vv = some (.int (rdV x p q ((σ 5) p) ((σ 6) p) (σ 7) s d)) ∧ ww = KX X a ν (u2 σ 15 (fF p q ((σ 5) p) ((σ 6) p) s d)) τ) := by
  generalize hQ : (fun (vv : Option Value) (ww : va_W) => vv = some (.int (rdV x p q ((σ 5) p) ((σ 6) p) (σ 7) s d)) ∧ ww = KX X a ν (u2 σ 15 (fF p q ((σ 5) p) ((σ 6) p) s d)) τ) = Q
  refine Does.go rfl (Nat.le_of_ble_eq_true rfl) [some (.ref (a 0)), some (.ref (a 16)), some (.int (nI p)), some (.int (nI q)), some (.int (nI s)), some (.int (nI d))] 0 rfl ?_
  refine r_aload_n rfl 1 rfl d_Mkt_readAs_0 ?_
  refine r_aload_n rfl 2 rfl d_Mkt_readAs_1 ?_
  refine r_iload_n rfl 3 rfl d_Mkt_readAs_2 ?_
  refine r_aload_n rfl 4 rfl d_Mkt_readAs_3 ?_
  refine r_getf (v := .ref (a 6)) gf_Mkt_22 0 rfl rfl 7 rfl d_Mkt_readAs_4 ?_
  refine r_iload_n rfl 8 rfl d_Mkt_readAs_7 ?_
  refine r_callSn1 (st2 := [.int (σ 6 p), .int (nI p), .ref (a 16), .ref (a 0)]) (w2 := KX X a ν σ τ) lk_HB_at ln_Mkt_83 (c_at X _ 6 p (σ 6) (by omega) (by decide)) (by first | decide | omega) rfl rfl (Nat.le_of_ble_eq_true rfl) (Nat.le_of_ble_eq_true rfl) (Nat.le_of_ble_eq_true rfl) [6] rfl rfl rfl rfl rfl 11 rfl d_Mkt_readAs_8 ?_
  refine r_iload_n rfl 12 rfl d_Mkt_readAs_11 ?_
  refine r_iload rfl 14 rfl d_Mkt_readAs_12 ?_
  refine r_iload rfl 16 rfl d_Mkt_readAs_14 ?_
  refine r_callVA1 (st2 := [.int (rdV x p q ((σ 5) p) (σ 6 p) (σ 7) s d)]) (w2 := KX X a ν (u2 σ 15 (fF p q ((σ 5) p) (σ 6 p) s d)) τ) lk_Mkt_readWith ln_Mkt_87 (c_Mkt_readWith X a ν σ τ x p (σ 6 p) q s d (hx) (by omega) (by omega) (by omega)) (by first | decide | omega) rfl rfl (Nat.le_of_ble_eq_true rfl) (Nat.le_of_ble_eq_true rfl) (Nat.le_of_ble_eq_true rfl) 0 rfl rfl rfl rfl 19 rfl d_Mkt_readAs_16 ?_
  exact r_iret rfl (Nat.zero_le _) (Nat.zero_le _) d_Mkt_readAs_19 (by rw [← hQ]; exact ⟨rfl, rfl⟩)
theorem c_Mkt_readAll (X : Xn) (a : Nat → Nat) (ν : Nat → Nat → Nat) (σ : Nat → Nat → Int32) (τ : Nat → Nat → Int64) (x : EX) (p : Nat) (q : Nat) (hx : heldC (ν 16 4) (ν 16 5) (σ 17) (σ 18) (σ 19) x) (hp : p < 6) (hd : ν 0 9 < 100000) : Does X 7 M_Mkt_readAll [.ref (a 0), .ref (a 16), .int (nI p), .int (nI q)] (KX X a ν σ τ) 0 0 (fun (vv : Option Value) (ww : va_W) => vv = none ∧ ww = KX X a ν (u2 (u2 σ 14 (seqA (fun z => rdV x p q ((σ 5) p) ((σ 6) p) (σ 7) z (ν 0 9)) (σ 14) 100)) 15 (fF p q ((σ 5) p) ((σ 6) p) 99 (ν 0 9))) τ) := by
  generalize hQ : (fun (vv : Option Value) (ww : va_W) => vv = none ∧ ww = KX X a ν (u2 (u2 σ 14 (seqA (fun z => rdV x p q ((σ 5) p) ((σ 6) p) (σ 7) z (ν 0 9)) (σ 14) 100)) 15 (fF p q ((σ 5) p) ((σ 6) p) 99 (ν 0 9))) τ) = Q
  refine Does.go rfl (Nat.le_of_ble_eq_true rfl) [some (.ref (a 0)), some (.ref (a 16)), some (.int (nI p)), some (.int (nI q)), none] 1 rfl ?_
  refine r_iconst (nI 0) rfl 1 rfl d_Mkt_readAll_0 ?_
  refine r_istore (ls2 := [some (.ref (a 0)), some (.ref (a 16)), some (.int (nI p)), some (.int (nI q)), some (.int (nI 0))]) 3 rfl d_Mkt_readAll_1 (by decide) rfl rfl ?_
  have L3_1 : ∀ (f : Nat) (k : Nat), (k ≤ 100) → 100 - k < f → Runs X 7 M_Mkt_readAll 0 0 Q 3 [some (.ref (a 0)), some (.ref (a 16)), some (.int (nI p)), some (.int (nI q)), some (.int (nI k))] [] 0 0 (KX X a ν (u2 (u2 σ 14 (seqA (fun z => rdV x p q (σ 5 p) (σ 6 p) (σ 7) z (ν 0 9)) (σ 14) k)) 15 (fsK (σ 15) (fun z => fF p q (σ 5 p) (σ 6 p) z (ν 0 9)) k)) τ) := by
    intro f
    induction f with
    | zero => intro k hk hmu; exact absurd hmu (Nat.not_lt_zero _)
    | succ f ih2 =>
      intro k hk hmu
      refine r_iload rfl 5 rfl d_Mkt_readAll_3 ?_
      refine r_aload_n rfl 6 rfl d_Mkt_readAll_5 ?_
      refine r_getf (v := .ref (a 14)) gf_Mkt_43 0 rfl rfl 9 rfl d_Mkt_readAll_6 ?_
      refine r_alenI 14 rfl 10 rfl d_Mkt_readAll_9 ?_
      refine r_icmp_geN k 100 (by omega) (by omega) 13 39 rfl rfl d_Mkt_readAll_10 (fun h10 => ?_) (fun h10 => ?_)
      · exact r_vret rfl (Nat.zero_le _) (Nat.zero_le _) d_Mkt_readAll_39 (by rw [← hQ]; exact ⟨rfl, by rw [show k = 100 by omega]; rfl⟩)
      · refine r_aload_n rfl 14 rfl d_Mkt_readAll_13 ?_
        refine r_getf (v := .ref (a 14)) gf_Mkt_43 0 rfl rfl 17 rfl d_Mkt_readAll_14 ?_
        refine r_iload rfl 19 rfl d_Mkt_readAll_17 ?_
        refine r_aload_n rfl 20 rfl d_Mkt_readAll_19 ?_
        refine r_aload_n rfl 21 rfl d_Mkt_readAll_20 ?_
        refine r_iload_n rfl 22 rfl d_Mkt_readAll_21 ?_
        refine r_iload_n rfl 23 rfl d_Mkt_readAll_22 ?_
        refine r_iload rfl 25 rfl d_Mkt_readAll_23 ?_
        refine r_aload_n rfl 26 rfl d_Mkt_readAll_25 ?_
        refine r_getf (v := .int (nI (ν 0 9))) gf_Mkt_70 0 rfl rfl 29 rfl d_Mkt_readAll_26 ?_
        refine r_callVA1 (st2 := [.int (rdV x p q ((σ 5) p) ((σ 6) p) (σ 7) k (ν 0 9)), .int (nI k), .ref (a 14)]) (w2 := KX X a ν (u2 (u2 (u2 σ 14 (seqA (fun z => rdV x p q (σ 5 p) (σ 6 p) (σ 7) z (ν 0 9)) (σ 14) k)) 15 (fsK (σ 15) (fun z => fF p q (σ 5 p) (σ 6 p) z (ν 0 9)) k)) 15 (fF p q ((σ 5) p) ((σ 6) p) k (ν 0 9))) τ) lk_Mkt_readAs ln_Mkt_120 (c_Mkt_readAs X a ν (u2 (u2 σ 14 (seqA (fun z => rdV x p q (σ 5 p) (σ 6 p) (σ 7) z (ν 0 9)) (σ 14) k)) 15 (fsK (σ 15) (fun z => fF p q (σ 5 p) (σ 6 p) z (ν 0 9)) k)) τ x p q k (ν 0 9) (hx) (by omega) (by omega) (by omega)) (by first | decide | omega) rfl rfl (Nat.le_of_ble_eq_true rfl) (Nat.le_of_ble_eq_true rfl) (Nat.le_of_ble_eq_true rfl) 0 rfl rfl rfl rfl 32 rfl d_Mkt_readAll_29 ?_
        refine r_iast (w2 := KX X a ν (u2 (u2 (u2 (u2 σ 14 (seqA (fun z => rdV x p q (σ 5 p) (σ 6 p) (σ 7) z (ν 0 9)) (σ 14) k)) 15 (fsK (σ 15) (fun z => fF p q (σ 5 p) (σ 6 p) z (ν 0 9)) k)) 15 (fF p q ((σ 5) p) ((σ 6) p) k (ν 0 9))) 14 (upd (seqA (fun z => rdV x p q (σ 5 p) (σ 6 p) (σ 7) z (ν 0 9)) (σ 14) k) k (rdV x p q ((σ 5) p) ((σ 6) p) (σ 7) k (ν 0 9)))) τ) 14 rfl k rfl (by omega) (by omega) rfl 33 rfl d_Mkt_readAll_32 ?_
        refine r_iinc (ls2 := [some (.ref (a 0)), some (.ref (a 16)), some (.int (nI p)), some (.int (nI q)), some (.int (nI (k + 1)))]) (nI (k + 1)) rfl (nI_1 _) 36 rfl d_Mkt_readAll_33 (by decide) rfl rfl ?_
        refine r_goto 3 rfl d_Mkt_readAll_36 ?_
        refine Runs.cast (ih2 (k + 1) (by omega) (by omega)) (rfl) rfl (by rw [seqA_s]; rfl; try rfl)
  refine Runs.cast (L3_1 _ 0 (Nat.zero_le _) (Nat.lt_succ_self _)) (rfl) rfl (by rw [show seqA (fun z => rdV x p q (σ 5 p) (σ 6 p) (σ 7) z (ν 0 9)) (σ 14) 0 = σ 14 from seqA_0 _ _]; rfl)
theorem c_Mkt_squeezesFor (X : Xn) (a : Nat → Nat) (ν : Nat → Nat → Nat) (σ : Nat → Nat → Int32) (τ : Nat → Nat → Int64)  (s : Int32) : Does X 1 M_Mkt_squeezesFor [.ref (a 0), .int s] (KW X a ν σ τ) 0 0 (fun (vv : Option Value) (ww : va_W) => vv = some (.int (nI (cu (σ 14) s 100))) ∧ ww = KW X a ν σ τ) := by
  generalize hQ : (fun (vv : Option Value) (ww : va_W) => vv = some (.int (nI (cu (σ 14) s 100))) ∧ ww = KW X a ν σ τ) = Q
  refine Does.go rfl (Nat.le_of_ble_eq_true rfl) [some (.ref (a 0)), some (.int s), none, none] 2 rfl ?_
  refine r_iconst (nI 0) rfl 1 rfl d_Mkt_squeezesFor_0 ?_
  refine r_istore_n (ls2 := [some (.ref (a 0)), some (.int s), some (.int (nI 0)), none]) 2 rfl d_Mkt_squeezesFor_1 (by decide) rfl rfl ?_
  refine r_iconst (nI 0) rfl 3 rfl d_Mkt_squeezesFor_2 ?_
  refine r_istore_n (ls2 := [some (.ref (a 0)), some (.int s), some (.int (nI 0)), some (.int (nI 0))]) 4 rfl d_Mkt_squeezesFor_3 (by decide) rfl rfl ?_
  have L4_1 : ∀ (f : Nat) (k : Nat), (k ≤ 100) → 100 - k < f → Runs X 1 M_Mkt_squeezesFor 0 0 Q 4 [some (.ref (a 0)), some (.int s), some (.int (nI (cu (σ 14) s k))), some (.int (nI k))] [] 0 0 (KW X a ν σ τ) := by
    intro f
    induction f with
    | zero => intro k hk hmu; exact absurd hmu (Nat.not_lt_zero _)
    | succ f ih2 =>
      intro k hk hmu
      refine r_iload_n rfl 5 rfl d_Mkt_squeezesFor_4 ?_
      refine r_aload_n rfl 6 rfl d_Mkt_squeezesFor_5 ?_
      refine r_getf (v := .ref (a 14)) gf_Mkt_43 0 rfl rfl 9 rfl d_Mkt_squeezesFor_6 ?_
      refine r_alenI 14 rfl 10 rfl d_Mkt_squeezesFor_9 ?_
      refine r_icmp_geN k 100 (by omega) (by omega) 13 32 rfl rfl d_Mkt_squeezesFor_10 (fun h10 => ?_) (fun h10 => ?_)
      · refine r_iload_n rfl 33 rfl d_Mkt_squeezesFor_32 ?_
        exact r_iret rfl (Nat.zero_le _) (Nat.zero_le _) d_Mkt_squeezesFor_33 (by rw [← hQ]; exact ⟨by rw [show k = 100 by omega], rfl⟩)
      · refine r_aload_n rfl 14 rfl d_Mkt_squeezesFor_13 ?_
        refine r_getf (v := .ref (a 14)) gf_Mkt_43 0 rfl rfl 17 rfl d_Mkt_squeezesFor_14 ?_
        refine r_iload_n rfl 18 rfl d_Mkt_squeezesFor_17 ?_
        refine r_iald (f := σ 14) 14 rfl k rfl (by omega) (by omega) 19 rfl d_Mkt_squeezesFor_18 ?_
        refine r_iload_n rfl 20 rfl d_Mkt_squeezesFor_19 ?_
        refine r_icmp_ne 23 26 rfl rfl d_Mkt_squeezesFor_20 (fun h20 => ?_) (fun h20 => ?_)
        · refine r_iinc (ls2 := [some (.ref (a 0)), some (.int s), some (.int (nI (cu (σ 14) s k))), some (.int (nI (k + 1)))]) (nI (k + 1)) rfl (nI_1 _) 29 rfl d_Mkt_squeezesFor_26 (by decide) rfl rfl ?_
          refine r_goto 4 rfl d_Mkt_squeezesFor_29 ?_
          refine Runs.cast (ih2 (k + 1) (by omega) (by omega)) (by rw [cu, if_neg h20]; try rfl) rfl (rfl)
        · refine r_iinc (ls2 := [some (.ref (a 0)), some (.int s), some (.int (nI ((cu (σ 14) s k) + 1))), some (.int (nI k))]) (nI ((cu (σ 14) s k) + 1)) rfl (nI_1 _) 26 rfl d_Mkt_squeezesFor_23 (by decide) rfl rfl ?_
          refine r_iinc (ls2 := [some (.ref (a 0)), some (.int s), some (.int (nI ((cu (σ 14) s k) + 1))), some (.int (nI (k + 1)))]) (nI (k + 1)) rfl (nI_1 _) 29 rfl d_Mkt_squeezesFor_26 (by decide) rfl rfl ?_
          refine r_goto 4 rfl d_Mkt_squeezesFor_29 ?_
          refine Runs.cast (ih2 (k + 1) (by omega) (by omega)) (by rw [cu, if_pos h20]; try rfl) rfl (rfl)
  exact L4_1 _ 0 (Nat.zero_le _) (Nat.lt_succ_self _)
theorem c_Mkt_leastFor (X : Xn) (a : Nat → Nat) (ν : Nat → Nat → Nat) (σ : Nat → Nat → Int32) (τ : Nat → Nat → Int64)  (s : Int32) : Does X 1 M_Mkt_leastFor [.ref (a 0), .int s] (KW X a ν σ τ) 0 0 (fun (vv : Option Value) (ww : va_W) => vv = some (.int (lfF (σ 14) s 100 100)) ∧ ww = KW X a ν σ τ) := by
  generalize hQ : (fun (vv : Option Value) (ww : va_W) => vv = some (.int (lfF (σ 14) s 100 100)) ∧ ww = KW X a ν σ τ) = Q
  refine Does.go rfl (Nat.le_of_ble_eq_true rfl) [some (.ref (a 0)), some (.int s), none] 1 rfl ?_
  refine r_iconst (nI 0) rfl 1 rfl d_Mkt_leastFor_0 ?_
  refine r_istore_n (ls2 := [some (.ref (a 0)), some (.int s), some (.int (nI 0))]) 2 rfl d_Mkt_leastFor_1 (by decide) rfl rfl ?_
  have L2_1 : ∀ (f : Nat) (k : Nat), (k ≤ 100) → (lfF (σ 14) s 100 (100 - k) = lfF (σ 14) s 100 100) → 100 - k < f → Runs X 1 M_Mkt_leastFor 0 0 Q 2 [some (.ref (a 0)), some (.int s), some (.int (nI k))] [] 0 0 (KW X a ν σ τ) := by
    intro f
    induction f with
    | zero => intro k hk hr hmu; exact absurd hmu (Nat.not_lt_zero _)
    | succ f ih2 =>
      intro k hk hr hmu
      refine r_iload_n rfl 3 rfl d_Mkt_leastFor_2 ?_
      refine r_aload_n rfl 4 rfl d_Mkt_leastFor_3 ?_
      refine r_getf (v := .ref (a 14)) gf_Mkt_43 0 rfl rfl 7 rfl d_Mkt_leastFor_4 ?_
      refine r_alenI 14 rfl 8 rfl d_Mkt_leastFor_7 ?_
      refine r_icmp_geN k 100 (by omega) (by omega) 11 29 rfl rfl d_Mkt_leastFor_8 (fun h8 => ?_) (fun h8 => ?_)
      · refine r_bipush ((-5)) rfl 31 rfl d_Mkt_leastFor_29 ?_
        exact r_iret rfl (Nat.zero_le _) (Nat.zero_le _) d_Mkt_leastFor_31 (by rw [← hQ]; exact ⟨by rw [← hr, show 100 - k = 0 by omega]; rfl, rfl⟩)
      · refine r_aload_n rfl 12 rfl d_Mkt_leastFor_11 ?_
        refine r_getf (v := .ref (a 14)) gf_Mkt_43 0 rfl rfl 15 rfl d_Mkt_leastFor_12 ?_
        refine r_iload_n rfl 16 rfl d_Mkt_leastFor_15 ?_
        refine r_iald (f := σ 14) 14 rfl k rfl (by omega) (by omega) 17 rfl d_Mkt_leastFor_16 ?_
        refine r_iload_n rfl 18 rfl d_Mkt_leastFor_17 ?_
        refine r_icmp_ne 21 23 rfl rfl d_Mkt_leastFor_18 (fun h18 => ?_) (fun h18 => ?_)
        · refine r_iinc (ls2 := [some (.ref (a 0)), some (.int s), some (.int (nI (k + 1)))]) (nI (k + 1)) rfl (nI_1 _) 26 rfl d_Mkt_leastFor_23 (by decide) rfl rfl ?_
          refine r_goto 2 rfl d_Mkt_leastFor_26 ?_
          exact ih2 (k + 1) (by omega) (by rw [← hr, lfF_s (show k < 100 by omega), if_neg h18]) (by omega)
        · refine r_iload_n rfl 22 rfl d_Mkt_leastFor_21 ?_
          exact r_iret rfl (Nat.zero_le _) (Nat.zero_le _) d_Mkt_leastFor_22 (by rw [← hQ]; exact ⟨by rw [← hr, lfF_s (show k < 100 by omega), if_pos h18], rfl⟩)
  exact L2_1 _ 0 (Nat.zero_le _) (rfl) (Nat.lt_succ_self _)
theorem c_Mkt_span (X : Xn) (a : Nat → Nat) (ν : Nat → Nat → Nat) (σ : Nat → Nat → Int32) (τ : Nat → Nat → Int64)   : Does X 2 M_Mkt_span [.ref (a 0)] (KW X a ν σ τ) 0 0 (fun (vv : Option Value) (ww : va_W) => vv = some (.int (nI (csp (σ 14) 100))) ∧ ww = KW X a ν σ τ) := by
  generalize hQ : (fun (vv : Option Value) (ww : va_W) => vv = some (.int (nI (csp (σ 14) 100))) ∧ ww = KW X a ν σ τ) = Q
  refine Does.go rfl (Nat.le_of_ble_eq_true rfl) [some (.ref (a 0)), none, none] 2 rfl ?_
  refine r_iconst (nI 0) rfl 1 rfl d_Mkt_span_0 ?_
  refine r_istore_n (ls2 := [some (.ref (a 0)), some (.int (nI 0)), none]) 2 rfl d_Mkt_span_1 (by decide) rfl rfl ?_
  refine r_iconst (nI 0) rfl 3 rfl d_Mkt_span_2 ?_
  refine r_istore_n (ls2 := [some (.ref (a 0)), some (.int (nI 0)), some (.int (nI 0))]) 4 rfl d_Mkt_span_3 (by decide) rfl rfl ?_
  have L4_1 : ∀ (f : Nat) (k : Nat), (k ≤ 100) → 100 - k < f → Runs X 2 M_Mkt_span 0 0 Q 4 [some (.ref (a 0)), some (.int (nI (csp (σ 14) k))), some (.int (nI k))] [] 0 0 (KW X a ν σ τ) := by
    intro f
    induction f with
    | zero => intro k hk hmu; exact absurd hmu (Nat.not_lt_zero _)
    | succ f ih2 =>
      intro k hk hmu
      refine r_iload_n rfl 5 rfl d_Mkt_span_4 ?_
      refine r_aload_n rfl 6 rfl d_Mkt_span_5 ?_
      refine r_getf (v := .ref (a 14)) gf_Mkt_43 0 rfl rfl 9 rfl d_Mkt_span_6 ?_
      refine r_alenI 14 rfl 10 rfl d_Mkt_span_9 ?_
      refine r_icmp_geN k 100 (by omega) (by omega) 13 45 rfl rfl d_Mkt_span_10 (fun h10 => ?_) (fun h10 => ?_)
      · refine r_iload_n rfl 46 rfl d_Mkt_span_45 ?_
        exact r_iret rfl (Nat.zero_le _) (Nat.zero_le _) d_Mkt_span_46 (by rw [← hQ]; exact ⟨by rw [show k = 100 by omega], rfl⟩)
      · refine r_aload_n rfl 14 rfl d_Mkt_span_13 ?_
        refine r_getf (v := .ref (a 14)) gf_Mkt_43 0 rfl rfl 17 rfl d_Mkt_span_14 ?_
        refine r_iload_n rfl 18 rfl d_Mkt_span_17 ?_
        refine r_iald (f := σ 14) 14 rfl k rfl (by omega) (by omega) 19 rfl d_Mkt_span_18 ?_
        refine r_if_eq 22 39 rfl rfl d_Mkt_span_19 (fun h19 => ?_) (fun h19 => ?_)
        · refine r_iinc (ls2 := [some (.ref (a 0)), some (.int (nI (csp (σ 14) k))), some (.int (nI (k + 1)))]) (nI (k + 1)) rfl (nI_1 _) 42 rfl d_Mkt_span_39 (by decide) rfl rfl ?_
          refine r_goto 4 rfl d_Mkt_span_42 ?_
          refine Runs.cast (ih2 (k + 1) (by omega) (by omega)) (by rw [csp, if_neg (fun z => z.1 h19)]; try rfl) rfl (rfl)
        · refine r_aload_n rfl 23 rfl d_Mkt_span_22 ?_
          refine r_aload_n rfl 24 rfl d_Mkt_span_23 ?_
          refine r_getf (v := .ref (a 14)) gf_Mkt_43 0 rfl rfl 27 rfl d_Mkt_span_24 ?_
          refine r_iload_n rfl 28 rfl d_Mkt_span_27 ?_
          refine r_iald (f := σ 14) 14 rfl k rfl (by omega) (by omega) 29 rfl d_Mkt_span_28 ?_
          refine r_callVA1 (st2 := [.int (lfF (σ 14) (σ 14 k) 100 100)]) (w2 := KW X a ν σ τ) lk_Mkt_leastFor ln_Mkt_124 (c_Mkt_leastFor X a ν σ τ  (σ 14 k) ) (by first | decide | omega) rfl rfl (Nat.le_of_ble_eq_true rfl) (Nat.le_of_ble_eq_true rfl) (Nat.le_of_ble_eq_true rfl) 0 rfl rfl rfl rfl 32 rfl d_Mkt_span_29 ?_
          refine r_iload_n rfl 33 rfl d_Mkt_span_32 ?_
          refine r_icmp_ne 36 39 rfl rfl d_Mkt_span_33 (fun h33 => ?_) (fun h33 => ?_)
          · refine r_iinc (ls2 := [some (.ref (a 0)), some (.int (nI (csp (σ 14) k))), some (.int (nI (k + 1)))]) (nI (k + 1)) rfl (nI_1 _) 42 rfl d_Mkt_span_39 (by decide) rfl rfl ?_
            refine r_goto 4 rfl d_Mkt_span_42 ?_
            refine Runs.cast (ih2 (k + 1) (by omega) (by omega)) (by rw [csp, if_neg (fun z => h33 z.2)]; try rfl) rfl (rfl)
          · refine r_iinc (ls2 := [some (.ref (a 0)), some (.int (nI ((csp (σ 14) k) + 1))), some (.int (nI k))]) (nI ((csp (σ 14) k) + 1)) rfl (nI_1 _) 39 rfl d_Mkt_span_36 (by decide) rfl rfl ?_
            refine r_iinc (ls2 := [some (.ref (a 0)), some (.int (nI ((csp (σ 14) k) + 1))), some (.int (nI (k + 1)))]) (nI (k + 1)) rfl (nI_1 _) 42 rfl d_Mkt_span_39 (by decide) rfl rfl ?_
            refine r_goto 4 rfl d_Mkt_span_42 ?_
            refine Runs.cast (ih2 (k + 1) (by omega) (by omega)) (by rw [csp, if_pos ⟨h19, h33⟩]; try rfl) rfl (rfl)
  exact L4_1 _ 0 (Nat.zero_le _) (Nat.lt_succ_self _)
theorem c_Mkt_seenIsSo (X : Xn) (a : Nat → Nat) (ν : Nat → Nat → Nat) (σ : Nat → Nat → Int32) (τ : Nat → Nat → Int64) (x : EX) (i : Nat) (v : Int32) (hx : heldC (ν 16 4) (ν 16 5) (σ 17) (σ 18) (σ 19) x) (hse : seenOk (σ 9) (ν 8 1)) (hd : ν 0 9 < 90000) (hi : i < ν 8 1) : Does X 6 M_Mkt_seenIsSo [.ref (a 0), .ref (a 16), .int (nI i), .int v] (KX X a ν σ τ) 0 0 (fun (vv : Option Value) (ww : va_W) => ∃ fs : Nat → Int32, vv = some (.int (bI (soC x (σ 5) (σ 7) (ν 0 9) (σ 9) i v))) ∧ ww = KX X a ν (u2 σ 15 fs) τ) := by
  generalize hQ : (fun (vv : Option Value) (ww : va_W) => ∃ fs : Nat → Int32, vv = some (.int (bI (soC x (σ 5) (σ 7) (ν 0 9) (σ 9) i v))) ∧ ww = KX X a ν (u2 σ 15 fs) τ) = Q
  refine Does.go rfl (Nat.le_of_ble_eq_true rfl) [some (.ref (a 0)), some (.ref (a 16)), some (.int (nI i)), some (.int v), none] 1 rfl ?_
  obtain ⟨P, R, S0, D0, hP, hR, hS0, hD0, e0, e1, e2, e3⟩ := hse.2 i hi
  have h5 := hse.1
  refine r_aload_n rfl 1 rfl d_Mkt_seenIsSo_0 ?_
  refine r_getf (v := .int (nI (ν 0 9))) gf_Mkt_70 0 rfl rfl 4 rfl d_Mkt_seenIsSo_1 ?_
  refine r_aload_n rfl 5 rfl d_Mkt_seenIsSo_4 ?_
  refine r_getf (v := .ref (a 8)) gf_Mkt_33 0 rfl rfl 8 rfl d_Mkt_seenIsSo_5 ?_
  refine r_iload_n rfl 9 rfl d_Mkt_seenIsSo_8 ?_
  refine r_iconst (nI 3) rfl 10 rfl d_Mkt_seenIsSo_9 ?_
  refine r_callV1 (st2 := [.int ((σ 9) (5 * i + 3)), .int (nI (ν 0 9))]) (w2 := KX X a ν σ τ) lk_Rws_cell ln_Mkt_127 (c_Rws_cell X 25 (pl [8, 9] a) (pl [8, 9] ν) (pl [8, 9] σ) (pl [8, 9] τ)  i 3 (by omega) (by decide)) (by first | decide | omega) rfl rfl (Nat.le_of_ble_eq_true rfl) (Nat.le_of_ble_eq_true rfl) (Nat.le_of_ble_eq_true rfl) [8, 9] rfl rfl 0 rfl rfl rfl rfl rfl 13 rfl d_Mkt_seenIsSo_10 ?_
  refine r_topi (nI (D0)) (e3) ?_
  refine r_iadd 14 rfl d_Mkt_seenIsSo_13 ?_
  refine r_topi (nI ((ν 0 9) + D0)) (nI_add _ _) ?_
  refine r_istore (ls2 := [some (.ref (a 0)), some (.ref (a 16)), some (.int (nI i)), some (.int v), some (.int (nI ((ν 0 9) + D0)))]) 16 rfl d_Mkt_seenIsSo_14 (by decide) rfl rfl ?_
  refine r_aload_n rfl 17 rfl d_Mkt_seenIsSo_16 ?_
  refine r_aload_n rfl 18 rfl d_Mkt_seenIsSo_17 ?_
  refine r_aload_n rfl 19 rfl d_Mkt_seenIsSo_18 ?_
  refine r_getf (v := .ref (a 8)) gf_Mkt_33 0 rfl rfl 22 rfl d_Mkt_seenIsSo_19 ?_
  refine r_iload_n rfl 23 rfl d_Mkt_seenIsSo_22 ?_
  refine r_iconst (nI 0) rfl 24 rfl d_Mkt_seenIsSo_23 ?_
  refine r_callV1 (st2 := [.int ((σ 9) (5 * i + 0)), .ref (a 16), .ref (a 0)]) (w2 := KX X a ν σ τ) lk_Rws_cell ln_Mkt_127 (c_Rws_cell X 25 (pl [8, 9] a) (pl [8, 9] ν) (pl [8, 9] σ) (pl [8, 9] τ)  i 0 (by omega) (by decide)) (by first | decide | omega) rfl rfl (Nat.le_of_ble_eq_true rfl) (Nat.le_of_ble_eq_true rfl) (Nat.le_of_ble_eq_true rfl) [8, 9] rfl rfl 0 rfl rfl rfl rfl rfl 27 rfl d_Mkt_seenIsSo_24 ?_
  refine r_topi (nI (P)) (e0) ?_
  refine r_iload_n rfl 28 rfl d_Mkt_seenIsSo_27 ?_
  refine r_aload_n rfl 29 rfl d_Mkt_seenIsSo_28 ?_
  refine r_getf (v := .ref (a 8)) gf_Mkt_33 0 rfl rfl 32 rfl d_Mkt_seenIsSo_29 ?_
  refine r_iload_n rfl 33 rfl d_Mkt_seenIsSo_32 ?_
  refine r_iconst (nI 1) rfl 34 rfl d_Mkt_seenIsSo_33 ?_
  refine r_callV1 (st2 := [.int ((σ 9) (5 * i + 1)), .int v, .int (nI P), .ref (a 16), .ref (a 0)]) (w2 := KX X a ν σ τ) lk_Rws_cell ln_Mkt_127 (c_Rws_cell X 25 (pl [8, 9] a) (pl [8, 9] ν) (pl [8, 9] σ) (pl [8, 9] τ)  i 1 (by omega) (by decide)) (by first | decide | omega) rfl rfl (Nat.le_of_ble_eq_true rfl) (Nat.le_of_ble_eq_true rfl) (Nat.le_of_ble_eq_true rfl) [8, 9] rfl rfl 0 rfl rfl rfl rfl rfl 37 rfl d_Mkt_seenIsSo_34 ?_
  refine r_topi (nI (R)) (e1) ?_
  refine r_aload_n rfl 38 rfl d_Mkt_seenIsSo_37 ?_
  refine r_getf (v := .ref (a 8)) gf_Mkt_33 0 rfl rfl 41 rfl d_Mkt_seenIsSo_38 ?_
  refine r_iload_n rfl 42 rfl d_Mkt_seenIsSo_41 ?_
  refine r_iconst (nI 2) rfl 43 rfl d_Mkt_seenIsSo_42 ?_
  refine r_callV1 (st2 := [.int ((σ 9) (5 * i + 2)), .int (nI R), .int v, .int (nI P), .ref (a 16), .ref (a 0)]) (w2 := KX X a ν σ τ) lk_Rws_cell ln_Mkt_127 (c_Rws_cell X 25 (pl [8, 9] a) (pl [8, 9] ν) (pl [8, 9] σ) (pl [8, 9] τ)  i 2 (by omega) (by decide)) (by first | decide | omega) rfl rfl (Nat.le_of_ble_eq_true rfl) (Nat.le_of_ble_eq_true rfl) (Nat.le_of_ble_eq_true rfl) [8, 9] rfl rfl 0 rfl rfl rfl rfl rfl 46 rfl d_Mkt_seenIsSo_43 ?_
  refine r_topi (nI (S0)) (e2) ?_
  refine r_iload rfl 48 rfl d_Mkt_seenIsSo_46 ?_
  refine r_callVA1 (st2 := [.int (rdV x P R ((σ 5) P) v (σ 7) S0 ((ν 0 9) + D0))]) (w2 := KX X a ν (u2 σ 15 (fF P R ((σ 5) P) v S0 ((ν 0 9) + D0))) τ) lk_Mkt_readWith ln_Mkt_87 (c_Mkt_readWith X a ν σ τ x P v R S0 ((ν 0 9) + D0) (hx) (by omega) (by omega) (by omega)) (by first | decide | omega) rfl rfl (Nat.le_of_ble_eq_true rfl) (Nat.le_of_ble_eq_true rfl) (Nat.le_of_ble_eq_true rfl) 0 rfl rfl rfl rfl 51 rfl d_Mkt_seenIsSo_48 ?_
  refine r_aload_n rfl 52 rfl d_Mkt_seenIsSo_51 ?_
  refine r_getf (v := .ref (a 8)) gf_Mkt_33 0 rfl rfl 55 rfl d_Mkt_seenIsSo_52 ?_
  refine r_iload_n rfl 56 rfl d_Mkt_seenIsSo_55 ?_
  refine r_iconst (nI 4) rfl 57 rfl d_Mkt_seenIsSo_56 ?_
  refine r_callV1 (st2 := [.int ((σ 9) (5 * i + 4)), .int (rdV x P R ((σ 5) P) v (σ 7) S0 ((ν 0 9) + D0))]) (w2 := KX X a ν (u2 σ 15 (fF P R ((σ 5) P) v S0 ((ν 0 9) + D0))) τ) lk_Rws_cell ln_Mkt_127 (c_Rws_cell X 25 (pl [8, 9] a) (pl [8, 9] ν) (pl [8, 9] (u2 σ 15 (fF P R ((σ 5) P) v S0 ((ν 0 9) + D0)))) (pl [8, 9] τ)  i 4 (by omega) (by decide)) (by first | decide | omega) rfl rfl (Nat.le_of_ble_eq_true rfl) (Nat.le_of_ble_eq_true rfl) (Nat.le_of_ble_eq_true rfl) [8, 9] rfl rfl 0 rfl rfl rfl rfl rfl 60 rfl d_Mkt_seenIsSo_57 ?_
  refine r_icmp_ne 63 67 rfl rfl d_Mkt_seenIsSo_60 (fun h60 => ?_) (fun h60 => ?_)
  · refine r_iconst (nI 0) rfl 68 rfl d_Mkt_seenIsSo_67 ?_
    exact r_zret rfl (rfl) (Nat.zero_le _) (Nat.zero_le _) d_Mkt_seenIsSo_68 (by rw [← hQ]; exact ⟨_, vB_f (by unfold soC; rw [e0, e1, e2, e3, cn_nI (by omega), cn_nI (by omega), cn_nI (by omega), cn_nI (by omega)]; exact decide_eq_false h60), rfl⟩)
  · refine r_iconst (nI 1) rfl 64 rfl d_Mkt_seenIsSo_63 ?_
    refine r_goto 68 rfl d_Mkt_seenIsSo_64 ?_
    exact r_zret rfl (rfl) (Nat.zero_le _) (Nat.zero_le _) d_Mkt_seenIsSo_68 (by rw [← hQ]; exact ⟨_, vB_t (by unfold soC; rw [e0, e1, e2, e3, cn_nI (by omega), cn_nI (by omega), cn_nI (by omega), cn_nI (by omega)]; exact decide_eq_true h60), rfl⟩)
theorem c_Mkt_fitsSeen (X : Xn) (a : Nat → Nat) (ν : Nat → Nat → Nat) (σ : Nat → Nat → Int32) (τ : Nat → Nat → Int64) (x : EX) (p : Nat) (v : Int32) (hx : heldC (ν 16 4) (ν 16 5) (σ 17) (σ 18) (σ 19) x) (hse : seenOk (σ 9) (ν 8 1)) (hd : ν 0 9 < 90000) : Does X 7 M_Mkt_fitsSeen [.ref (a 0), .ref (a 16), .int (nI p), .int v] (KX X a ν σ τ) 0 0 (fun (vv : Option Value) (ww : va_W) => ∃ fs : Nat → Int32, vv = some (.int (bI (allU (fun z => soC x (σ 5) (σ 7) (ν 0 9) (σ 9) z v) (col (σ 9) 0) p (ν 8 1) (ν 8 1)))) ∧ ww = KX X a ν (u2 σ 15 fs) τ) := by
  generalize hQ : (fun (vv : Option Value) (ww : va_W) => ∃ fs : Nat → Int32, vv = some (.int (bI (allU (fun z => soC x (σ 5) (σ 7) (ν 0 9) (σ 9) z v) (col (σ 9) 0) p (ν 8 1) (ν 8 1)))) ∧ ww = KX X a ν (u2 σ 15 fs) τ) = Q
  refine Does.go rfl (Nat.le_of_ble_eq_true rfl) [some (.ref (a 0)), some (.ref (a 16)), some (.int (nI p)), some (.int v), none] 1 rfl ?_
  have h5 := hse.1
  refine r_iconst (nI 0) rfl 1 rfl d_Mkt_fitsSeen_0 ?_
  refine r_istore (ls2 := [some (.ref (a 0)), some (.ref (a 16)), some (.int (nI p)), some (.int v), some (.int (nI 0))]) 3 rfl d_Mkt_fitsSeen_1 (by decide) rfl rfl ?_
  have L3_1 : ∀ (f : Nat) (i : Nat) (fs : Nat → Int32), (i ≤ ν 8 1) → (allU (fun z => soC x (σ 5) (σ 7) (ν 0 9) (σ 9) z v) (col (σ 9) 0) p (ν 8 1) (ν 8 1 - i) = allU (fun z => soC x (σ 5) (σ 7) (ν 0 9) (σ 9) z v) (col (σ 9) 0) p (ν 8 1) (ν 8 1)) → ν 8 1 - i < f → Runs X 7 M_Mkt_fitsSeen 0 0 Q 3 [some (.ref (a 0)), some (.ref (a 16)), some (.int (nI p)), some (.int v), some (.int (nI i))] [] 0 0 (KX X a ν (u2 σ 15 fs) τ) := by
    intro f
    induction f with
    | zero => intro i fs hi hr hmu; exact absurd hmu (Nat.not_lt_zero _)
    | succ f ih2 =>
      intro i fs hi hr hmu
      refine r_iload rfl 5 rfl d_Mkt_fitsSeen_3 ?_
      refine r_aload_n rfl 6 rfl d_Mkt_fitsSeen_5 ?_
      refine r_getf (v := .ref (a 8)) gf_Mkt_33 0 rfl rfl 9 rfl d_Mkt_fitsSeen_6 ?_
      refine r_getfn (v := .int (nI (ν 8 1))) gf_Mkt_131 8 rfl rfl 12 rfl d_Mkt_fitsSeen_9 ?_
      refine r_icmp_geN i (ν 8 1) (by omega) (by omega) 15 48 rfl rfl d_Mkt_fitsSeen_12 (fun h12 => ?_) (fun h12 => ?_)
      · refine r_iconst (nI 1) rfl 49 rfl d_Mkt_fitsSeen_48 ?_
        exact r_zret rfl (rfl) (Nat.zero_le _) (Nat.zero_le _) d_Mkt_fitsSeen_49 (by rw [← hQ]; exact ⟨_, vB_t (by rw [← hr, show ν 8 1 - i = 0 by omega]; rfl), rfl⟩)
      · refine r_aload_n rfl 16 rfl d_Mkt_fitsSeen_15 ?_
        refine r_getf (v := .ref (a 8)) gf_Mkt_33 0 rfl rfl 19 rfl d_Mkt_fitsSeen_16 ?_
        refine r_iload rfl 21 rfl d_Mkt_fitsSeen_19 ?_
        refine r_iconst (nI 0) rfl 22 rfl d_Mkt_fitsSeen_21 ?_
        refine r_callV1 (st2 := [.int ((σ 9) (5 * i + 0))]) (w2 := KX X a ν (u2 σ 15 fs) τ) lk_Rws_cell ln_Mkt_127 (c_Rws_cell X 25 (pl [8, 9] a) (pl [8, 9] ν) (pl [8, 9] (u2 σ 15 fs)) (pl [8, 9] τ)  i 0 (by omega) (by decide)) (by first | decide | omega) rfl rfl (Nat.le_of_ble_eq_true rfl) (Nat.le_of_ble_eq_true rfl) (Nat.le_of_ble_eq_true rfl) [8, 9] rfl rfl 0 rfl rfl rfl rfl rfl 25 rfl d_Mkt_fitsSeen_22 ?_
        refine r_iload_n rfl 26 rfl d_Mkt_fitsSeen_25 ?_
        refine r_icmp_ne 29 42 rfl rfl d_Mkt_fitsSeen_26 (fun h26 => ?_) (fun h26 => ?_)
        · refine r_iinc (ls2 := [some (.ref (a 0)), some (.ref (a 16)), some (.int (nI p)), some (.int v), some (.int (nI (i + 1)))]) (nI (i + 1)) rfl (nI_1 _) 45 rfl d_Mkt_fitsSeen_42 (by decide) rfl rfl ?_
          refine r_goto 3 rfl d_Mkt_fitsSeen_45 ?_
          exact ih2 (i + 1) fs (by omega) (by rw [← hr]; exact (allSo_t (sb := col (σ 9) 0) (show i < ν 8 1 by omega) (Or.inl h26)).symm) (by omega)
        · refine r_aload_n rfl 30 rfl d_Mkt_fitsSeen_29 ?_
          refine r_aload_n rfl 31 rfl d_Mkt_fitsSeen_30 ?_
          refine r_iload rfl 33 rfl d_Mkt_fitsSeen_31 ?_
          refine r_iload_n rfl 34 rfl d_Mkt_fitsSeen_33 ?_
          refine r_callVAQ (st2 := []) (w2 := []) lk_Mkt_seenIsSo ln_Mkt_132 (c_Mkt_seenIsSo X a ν (u2 σ 15 fs) τ x i v hx hse hd (by omega)) (by first | decide | omega) rfl rfl (Nat.le_of_ble_eq_true rfl) (Nat.le_of_ble_eq_true rfl) (Nat.le_of_ble_eq_true rfl) 0 rfl rfl 37 rfl d_Mkt_fitsSeen_34 (fun vv ww hq2 => ?_)
          obtain ⟨fs2, rfl, rfl⟩ := hq2
          refine ⟨rfl, ?_⟩
          show Runs X 7 M_Mkt_fitsSeen 0 0 Q 37 [some (.ref (a 0)), some (.ref (a 16)), some (.int (nI p)), some (.int v), some (.int (nI i))] [.int (bI (soC x (σ 5) (σ 7) (ν 0 9) (σ 9) i v))] 0 0 (KX X a ν (u2 σ 15 fs2) τ)
          refine r_if_neB 40 42 rfl rfl d_Mkt_fitsSeen_37 (fun h37 => ?_) (fun h37 => ?_)
          · refine r_iinc (ls2 := [some (.ref (a 0)), some (.ref (a 16)), some (.int (nI p)), some (.int v), some (.int (nI (i + 1)))]) (nI (i + 1)) rfl (nI_1 _) 45 rfl d_Mkt_fitsSeen_42 (by decide) rfl rfl ?_
            refine r_goto 3 rfl d_Mkt_fitsSeen_45 ?_
            exact ih2 (i + 1) fs2 (by omega) (by rw [← hr]; exact (allSo_t (sb := col (σ 9) 0) (show i < ν 8 1 by omega) (Or.inr h37)).symm) (by omega)
          · refine r_iconst (nI 0) rfl 41 rfl d_Mkt_fitsSeen_40 ?_
            exact r_zret rfl (rfl) (Nat.zero_le _) (Nat.zero_le _) d_Mkt_fitsSeen_41 (by rw [← hQ]; exact ⟨_, vB_f (by rw [← hr]; exact allSo_f (sb := col (σ 9) 0) (show i < ν 8 1 by omega) h26 h37), rfl⟩)
  refine Runs.cast (L3_1 _ 0 (σ 15) (Nat.zero_le _) (rfl) (Nat.lt_succ_self _)) (rfl) rfl (by rw [u2_self])
theorem c_Mkt_copyFrom (X : Xn) (a : Nat → Nat) (ν : Nat → Nat → Nat) (σ : Nat → Nat → Int32) (τ : Nat → Nat → Int64)   : Does X 3 M_Mkt_copyFrom [.ref (a 0), .ref (a 16)] (KK X a ν σ τ) 0 0 (fun (vv : Option Value) (ww : va_W) => vv = none ∧ ww = KK X a (pu (pu (pu (pu (pu (pu ν 1 (u1 (ν 1) 3 (ν 17 3))) 8 (u1 (ν 8) 1 (ν 24 1))) 10 (u1 (ν 10) 1 (ν 26 1))) 12 (u1 (ν 12) 1 (ν 28 1))) 0 (u1 (ν 0) 9 (ν 16 9))) 0 (u1 (u1 (ν 0) 9 (ν 16 9)) 10 (ν 16 10))) (u2 (u2 (u2 (u2 (u2 (u2 (u2 (u2 σ 2 (va_cpy (σ 18) (σ 2) 0 0 6)) 3 (va_cpy (σ 19) (σ 3) 0 0 36)) 5 (va_cpy (σ 21) (σ 5) 0 0 6)) 6 (va_cpy (σ 22) (σ 6) 0 0 6)) 7 (va_cpy (σ 23) (σ 7) 0 0 24)) 9 (va_cpy (σ 25) (σ 9) 0 0 25)) 11 (va_cpy (σ 27) (σ 11) 0 0 50)) 13 (va_cpy (σ 29) (σ 13) 0 0 40)) τ) := by
  generalize hQ : (fun (vv : Option Value) (ww : va_W) => vv = none ∧ ww = KK X a (pu (pu (pu (pu (pu (pu ν 1 (u1 (ν 1) 3 (ν 17 3))) 8 (u1 (ν 8) 1 (ν 24 1))) 10 (u1 (ν 10) 1 (ν 26 1))) 12 (u1 (ν 12) 1 (ν 28 1))) 0 (u1 (ν 0) 9 (ν 16 9))) 0 (u1 (u1 (ν 0) 9 (ν 16 9)) 10 (ν 16 10))) (u2 (u2 (u2 (u2 (u2 (u2 (u2 (u2 σ 2 (va_cpy (σ 18) (σ 2) 0 0 6)) 3 (va_cpy (σ 19) (σ 3) 0 0 36)) 5 (va_cpy (σ 21) (σ 5) 0 0 6)) 6 (va_cpy (σ 22) (σ 6) 0 0 6)) 7 (va_cpy (σ 23) (σ 7) 0 0 24)) 9 (va_cpy (σ 25) (σ 9) 0 0 25)) 11 (va_cpy (σ 27) (σ 11) 0 0 50)) 13 (va_cpy (σ 29) (σ 13) 0 0 40)) τ) = Q
  refine Does.go rfl (Nat.le_of_ble_eq_true rfl) [some (.ref (a 0)), some (.ref (a 16))] 0 rfl ?_
  refine r_aload_n rfl 1 rfl d_Mkt_copyFrom_0 ?_
  refine r_getf (v := .ref (a 1)) gf_Mkt_12 0 rfl rfl 4 rfl d_Mkt_copyFrom_1 ?_
  refine r_aload_n rfl 5 rfl d_Mkt_copyFrom_4 ?_
  refine r_getf (v := .ref (a 17)) gf_Mkt_12 16 rfl rfl 8 rfl d_Mkt_copyFrom_5 ?_
  refine r_callV1 (st2 := []) (w2 := KK X a (pu ν 1 (u1 (ν 1) 3 (ν 17 3))) (u2 (u2 σ 2 (va_cpy (σ 18) (σ 2) 0 0 6)) 3 (va_cpy (σ 19) (σ 3) 0 0 36)) τ) lk_Led_copyFrom ln_Mkt_57 (c_Led_copyFrom X (pl [1, 2, 3, 4, 17, 18, 19, 20] a) (pl [1, 2, 3, 4, 17, 18, 19, 20] ν) (pl [1, 2, 3, 4, 17, 18, 19, 20] σ) (pl [1, 2, 3, 4, 17, 18, 19, 20] τ)   ) (by first | decide | omega) rfl rfl (Nat.le_of_ble_eq_true rfl) (Nat.le_of_ble_eq_true rfl) (Nat.le_of_ble_eq_true rfl) [1, 2, 3, 4, 17, 18, 19, 20] rfl rfl 0 rfl rfl rfl rfl rfl 11 rfl d_Mkt_copyFrom_8 ?_
  refine r_aload_n rfl 12 rfl d_Mkt_copyFrom_11 ?_
  refine r_getf (v := .ref (a 21)) gf_Mkt_18 16 rfl rfl 15 rfl d_Mkt_copyFrom_12 ?_
  refine r_iconst (nI 0) rfl 16 rfl d_Mkt_copyFrom_15 ?_
  refine r_aload_n rfl 17 rfl d_Mkt_copyFrom_16 ?_
  refine r_getf (v := .ref (a 5)) gf_Mkt_18 0 rfl rfl 20 rfl d_Mkt_copyFrom_17 ?_
  refine r_iconst (nI 0) rfl 21 rfl d_Mkt_copyFrom_20 ?_
  refine r_aload_n rfl 22 rfl d_Mkt_copyFrom_21 ?_
  refine r_getf (v := .ref (a 5)) gf_Mkt_18 0 rfl rfl 25 rfl d_Mkt_copyFrom_22 ?_
  refine r_alenI 5 rfl 26 rfl d_Mkt_copyFrom_25 ?_
  refine r_copyi (w2 := KK X a (pu ν 1 (u1 (ν 1) 3 (ν 17 3))) (u2 (u2 (u2 σ 2 (va_cpy (σ 18) (σ 2) 0 0 6)) 3 (va_cpy (σ 19) (σ 3) 0 0 36)) 5 (va_cpy (σ 21) (σ 5) 0 0 6)) τ) (inTB 762 (by decide +kernel) rfl) (by first | decide | omega) (Nat.le_of_ble_eq_true rfl) 21 5 rfl rfl 0 0 6 rfl rfl rfl (by omega) (by omega) (by omega) (by omega) rfl 29 rfl d_Mkt_copyFrom_26 ?_
  refine r_aload_n rfl 30 rfl d_Mkt_copyFrom_29 ?_
  refine r_getf (v := .ref (a 22)) gf_Mkt_22 16 rfl rfl 33 rfl d_Mkt_copyFrom_30 ?_
  refine r_iconst (nI 0) rfl 34 rfl d_Mkt_copyFrom_33 ?_
  refine r_aload_n rfl 35 rfl d_Mkt_copyFrom_34 ?_
  refine r_getf (v := .ref (a 6)) gf_Mkt_22 0 rfl rfl 38 rfl d_Mkt_copyFrom_35 ?_
  refine r_iconst (nI 0) rfl 39 rfl d_Mkt_copyFrom_38 ?_
  refine r_aload_n rfl 40 rfl d_Mkt_copyFrom_39 ?_
  refine r_getf (v := .ref (a 6)) gf_Mkt_22 0 rfl rfl 43 rfl d_Mkt_copyFrom_40 ?_
  refine r_alenI 6 rfl 44 rfl d_Mkt_copyFrom_43 ?_
  refine r_copyi (w2 := KK X a (pu ν 1 (u1 (ν 1) 3 (ν 17 3))) (u2 (u2 (u2 (u2 σ 2 (va_cpy (σ 18) (σ 2) 0 0 6)) 3 (va_cpy (σ 19) (σ 3) 0 0 36)) 5 (va_cpy (σ 21) (σ 5) 0 0 6)) 6 (va_cpy (σ 22) (σ 6) 0 0 6)) τ) (inTB 762 (by decide +kernel) rfl) (by first | decide | omega) (Nat.le_of_ble_eq_true rfl) 22 6 rfl rfl 0 0 6 rfl rfl rfl (by omega) (by omega) (by omega) (by omega) rfl 47 rfl d_Mkt_copyFrom_44 ?_
  refine r_aload_n rfl 48 rfl d_Mkt_copyFrom_47 ?_
  refine r_getf (v := .ref (a 23)) gf_Mkt_25 16 rfl rfl 51 rfl d_Mkt_copyFrom_48 ?_
  refine r_iconst (nI 0) rfl 52 rfl d_Mkt_copyFrom_51 ?_
  refine r_aload_n rfl 53 rfl d_Mkt_copyFrom_52 ?_
  refine r_getf (v := .ref (a 7)) gf_Mkt_25 0 rfl rfl 56 rfl d_Mkt_copyFrom_53 ?_
  refine r_iconst (nI 0) rfl 57 rfl d_Mkt_copyFrom_56 ?_
  refine r_aload_n rfl 58 rfl d_Mkt_copyFrom_57 ?_
  refine r_getf (v := .ref (a 7)) gf_Mkt_25 0 rfl rfl 61 rfl d_Mkt_copyFrom_58 ?_
  refine r_alenI 7 rfl 62 rfl d_Mkt_copyFrom_61 ?_
  refine r_copyi (w2 := KK X a (pu ν 1 (u1 (ν 1) 3 (ν 17 3))) (u2 (u2 (u2 (u2 (u2 σ 2 (va_cpy (σ 18) (σ 2) 0 0 6)) 3 (va_cpy (σ 19) (σ 3) 0 0 36)) 5 (va_cpy (σ 21) (σ 5) 0 0 6)) 6 (va_cpy (σ 22) (σ 6) 0 0 6)) 7 (va_cpy (σ 23) (σ 7) 0 0 24)) τ) (inTB 762 (by decide +kernel) rfl) (by first | decide | omega) (Nat.le_of_ble_eq_true rfl) 23 7 rfl rfl 0 0 24 rfl rfl rfl (by omega) (by omega) (by omega) (by omega) rfl 65 rfl d_Mkt_copyFrom_62 ?_
  refine r_aload_n rfl 66 rfl d_Mkt_copyFrom_65 ?_
  refine r_getf (v := .ref (a 8)) gf_Mkt_33 0 rfl rfl 69 rfl d_Mkt_copyFrom_66 ?_
  refine r_aload_n rfl 70 rfl d_Mkt_copyFrom_69 ?_
  refine r_getf (v := .ref (a 24)) gf_Mkt_33 16 rfl rfl 73 rfl d_Mkt_copyFrom_70 ?_
  refine r_callV1 (st2 := []) (w2 := KK X a (pu (pu ν 1 (u1 (ν 1) 3 (ν 17 3))) 8 (u1 (ν 8) 1 (ν 24 1))) (u2 (u2 (u2 (u2 (u2 (u2 σ 2 (va_cpy (σ 18) (σ 2) 0 0 6)) 3 (va_cpy (σ 19) (σ 3) 0 0 36)) 5 (va_cpy (σ 21) (σ 5) 0 0 6)) 6 (va_cpy (σ 22) (σ 6) 0 0 6)) 7 (va_cpy (σ 23) (σ 7) 0 0 24)) 9 (va_cpy (σ 25) (σ 9) 0 0 25)) τ) lk_Rws_copyFrom ln_Mkt_67 (c_Rws_copyFrom X 25 (pl [8, 9, 24, 25] a) (pl [8, 9, 24, 25] (pu ν 1 (u1 (ν 1) 3 (ν 17 3)))) (pl [8, 9, 24, 25] (u2 (u2 (u2 (u2 (u2 σ 2 (va_cpy (σ 18) (σ 2) 0 0 6)) 3 (va_cpy (σ 19) (σ 3) 0 0 36)) 5 (va_cpy (σ 21) (σ 5) 0 0 6)) 6 (va_cpy (σ 22) (σ 6) 0 0 6)) 7 (va_cpy (σ 23) (σ 7) 0 0 24))) (pl [8, 9, 24, 25] τ)   (by decide)) (by first | decide | omega) rfl rfl (Nat.le_of_ble_eq_true rfl) (Nat.le_of_ble_eq_true rfl) (Nat.le_of_ble_eq_true rfl) [8, 9, 24, 25] rfl rfl 0 rfl rfl rfl rfl rfl 76 rfl d_Mkt_copyFrom_73 ?_
  refine r_aload_n rfl 77 rfl d_Mkt_copyFrom_76 ?_
  refine r_getf (v := .ref (a 10)) gf_Mkt_37 0 rfl rfl 80 rfl d_Mkt_copyFrom_77 ?_
  refine r_aload_n rfl 81 rfl d_Mkt_copyFrom_80 ?_
  refine r_getf (v := .ref (a 26)) gf_Mkt_37 16 rfl rfl 84 rfl d_Mkt_copyFrom_81 ?_
  refine r_callV1 (st2 := []) (w2 := KK X a (pu (pu (pu ν 1 (u1 (ν 1) 3 (ν 17 3))) 8 (u1 (ν 8) 1 (ν 24 1))) 10 (u1 (ν 10) 1 (ν 26 1))) (u2 (u2 (u2 (u2 (u2 (u2 (u2 σ 2 (va_cpy (σ 18) (σ 2) 0 0 6)) 3 (va_cpy (σ 19) (σ 3) 0 0 36)) 5 (va_cpy (σ 21) (σ 5) 0 0 6)) 6 (va_cpy (σ 22) (σ 6) 0 0 6)) 7 (va_cpy (σ 23) (σ 7) 0 0 24)) 9 (va_cpy (σ 25) (σ 9) 0 0 25)) 11 (va_cpy (σ 27) (σ 11) 0 0 50)) τ) lk_Rws_copyFrom ln_Mkt_67 (c_Rws_copyFrom X 50 (pl [10, 11, 26, 27] a) (pl [10, 11, 26, 27] (pu (pu ν 1 (u1 (ν 1) 3 (ν 17 3))) 8 (u1 (ν 8) 1 (ν 24 1)))) (pl [10, 11, 26, 27] (u2 (u2 (u2 (u2 (u2 (u2 σ 2 (va_cpy (σ 18) (σ 2) 0 0 6)) 3 (va_cpy (σ 19) (σ 3) 0 0 36)) 5 (va_cpy (σ 21) (σ 5) 0 0 6)) 6 (va_cpy (σ 22) (σ 6) 0 0 6)) 7 (va_cpy (σ 23) (σ 7) 0 0 24)) 9 (va_cpy (σ 25) (σ 9) 0 0 25))) (pl [10, 11, 26, 27] τ)   (by decide)) (by first | decide | omega) rfl rfl (Nat.le_of_ble_eq_true rfl) (Nat.le_of_ble_eq_true rfl) (Nat.le_of_ble_eq_true rfl) [10, 11, 26, 27] rfl rfl 0 rfl rfl rfl rfl rfl 87 rfl d_Mkt_copyFrom_84 ?_
  refine r_aload_n rfl 88 rfl d_Mkt_copyFrom_87 ?_
  refine r_getf (v := .ref (a 12)) gf_Mkt_40 0 rfl rfl 91 rfl d_Mkt_copyFrom_88 ?_
  refine r_aload_n rfl 92 rfl d_Mkt_copyFrom_91 ?_
  refine r_getf (v := .ref (a 28)) gf_Mkt_40 16 rfl rfl 95 rfl d_Mkt_copyFrom_92 ?_
  refine r_callV1 (st2 := []) (w2 := KK X a (pu (pu (pu (pu ν 1 (u1 (ν 1) 3 (ν 17 3))) 8 (u1 (ν 8) 1 (ν 24 1))) 10 (u1 (ν 10) 1 (ν 26 1))) 12 (u1 (ν 12) 1 (ν 28 1))) (u2 (u2 (u2 (u2 (u2 (u2 (u2 (u2 σ 2 (va_cpy (σ 18) (σ 2) 0 0 6)) 3 (va_cpy (σ 19) (σ 3) 0 0 36)) 5 (va_cpy (σ 21) (σ 5) 0 0 6)) 6 (va_cpy (σ 22) (σ 6) 0 0 6)) 7 (va_cpy (σ 23) (σ 7) 0 0 24)) 9 (va_cpy (σ 25) (σ 9) 0 0 25)) 11 (va_cpy (σ 27) (σ 11) 0 0 50)) 13 (va_cpy (σ 29) (σ 13) 0 0 40)) τ) lk_Rws_copyFrom ln_Mkt_67 (c_Rws_copyFrom X 40 (pl [12, 13, 28, 29] a) (pl [12, 13, 28, 29] (pu (pu (pu ν 1 (u1 (ν 1) 3 (ν 17 3))) 8 (u1 (ν 8) 1 (ν 24 1))) 10 (u1 (ν 10) 1 (ν 26 1)))) (pl [12, 13, 28, 29] (u2 (u2 (u2 (u2 (u2 (u2 (u2 σ 2 (va_cpy (σ 18) (σ 2) 0 0 6)) 3 (va_cpy (σ 19) (σ 3) 0 0 36)) 5 (va_cpy (σ 21) (σ 5) 0 0 6)) 6 (va_cpy (σ 22) (σ 6) 0 0 6)) 7 (va_cpy (σ 23) (σ 7) 0 0 24)) 9 (va_cpy (σ 25) (σ 9) 0 0 25)) 11 (va_cpy (σ 27) (σ 11) 0 0 50))) (pl [12, 13, 28, 29] τ)   (by decide)) (by first | decide | omega) rfl rfl (Nat.le_of_ble_eq_true rfl) (Nat.le_of_ble_eq_true rfl) (Nat.le_of_ble_eq_true rfl) [12, 13, 28, 29] rfl rfl 0 rfl rfl rfl rfl rfl 98 rfl d_Mkt_copyFrom_95 ?_
  refine r_aload_n rfl 99 rfl d_Mkt_copyFrom_98 ?_
  refine r_aload_n rfl 100 rfl d_Mkt_copyFrom_99 ?_
  refine r_getf (v := .int (nI (ν 16 9))) gf_Mkt_70 16 rfl rfl 103 rfl d_Mkt_copyFrom_100 ?_
  refine r_putf (w2 := KK X a (pu (pu (pu (pu (pu ν 1 (u1 (ν 1) 3 (ν 17 3))) 8 (u1 (ν 8) 1 (ν 24 1))) 10 (u1 (ν 10) 1 (ν 26 1))) 12 (u1 (ν 12) 1 (ν 28 1))) 0 (u1 (ν 0) 9 (ν 16 9))) (u2 (u2 (u2 (u2 (u2 (u2 (u2 (u2 σ 2 (va_cpy (σ 18) (σ 2) 0 0 6)) 3 (va_cpy (σ 19) (σ 3) 0 0 36)) 5 (va_cpy (σ 21) (σ 5) 0 0 6)) 6 (va_cpy (σ 22) (σ 6) 0 0 6)) 7 (va_cpy (σ 23) (σ 7) 0 0 24)) 9 (va_cpy (σ 25) (σ 9) 0 0 25)) 11 (va_cpy (σ 27) (σ 11) 0 0 50)) 13 (va_cpy (σ 29) (σ 13) 0 0 40)) τ) pf_Mkt_70 0 rfl (rfl) rfl (Nat.le_of_ble_eq_true rfl) rfl 106 rfl d_Mkt_copyFrom_103 ?_
  refine r_aload_n rfl 107 rfl d_Mkt_copyFrom_106 ?_
  refine r_aload_n rfl 108 rfl d_Mkt_copyFrom_107 ?_
  refine r_getf (v := .int (nI (ν 16 10) - 1)) gf_Mkt_53 16 rfl rfl 111 rfl d_Mkt_copyFrom_108 ?_
  refine r_putf (w2 := KK X a (pu (pu (pu (pu (pu (pu ν 1 (u1 (ν 1) 3 (ν 17 3))) 8 (u1 (ν 8) 1 (ν 24 1))) 10 (u1 (ν 10) 1 (ν 26 1))) 12 (u1 (ν 12) 1 (ν 28 1))) 0 (u1 (ν 0) 9 (ν 16 9))) 0 (u1 (u1 (ν 0) 9 (ν 16 9)) 10 (ν 16 10))) (u2 (u2 (u2 (u2 (u2 (u2 (u2 (u2 σ 2 (va_cpy (σ 18) (σ 2) 0 0 6)) 3 (va_cpy (σ 19) (σ 3) 0 0 36)) 5 (va_cpy (σ 21) (σ 5) 0 0 6)) 6 (va_cpy (σ 22) (σ 6) 0 0 6)) 7 (va_cpy (σ 23) (σ 7) 0 0 24)) 9 (va_cpy (σ 25) (σ 9) 0 0 25)) 11 (va_cpy (σ 27) (σ 11) 0 0 50)) 13 (va_cpy (σ 29) (σ 13) 0 0 40)) τ) pf_Mkt_53 0 rfl (rfl) rfl (Nat.le_of_ble_eq_true rfl) rfl 114 rfl d_Mkt_copyFrom_111 ?_
  exact r_vret rfl (Nat.zero_le _) (Nat.zero_le _) d_Mkt_copyFrom_114 (by rw [← hQ]; exact ⟨rfl, rfl⟩)
