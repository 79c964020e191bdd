def M_Scr_readClause : XM := (⟨"HandshakeBinds$Scribe", "readClause", "()Z"⟩, prog_8_method_5_code, 4, (some .boolean))
theorem d_Scr_readClause_0 : decode M_Scr_readClause.2.1 0 = .ok (.aload_n 0, 1) := by decide +kernel
theorem d_Scr_readClause_1 : decode M_Scr_readClause.2.1 1 = .ok (.invokevirtual 58, 3) := by decide +kernel
theorem d_Scr_readClause_4 : decode M_Scr_readClause.2.1 4 = .ok (.istore_n 1, 1) := by decide +kernel
theorem d_Scr_readClause_5 : decode M_Scr_readClause.2.1 5 = .ok (.iload_n 1, 1) := by decide +kernel
theorem d_Scr_readClause_6 : decode M_Scr_readClause.2.1 6 = .ok (.bipush 102, 2) := by decide +kernel
theorem d_Scr_readClause_8 : decode M_Scr_readClause.2.1 8 = .ok (.if_icmp .ne 8, 3) := by decide +kernel
theorem d_Scr_readClause_16 : decode M_Scr_readClause.2.1 16 = .ok (.iload_n 1, 1) := by decide +kernel
theorem d_Scr_readClause_17 : decode M_Scr_readClause.2.1 17 = .ok (.bipush 108, 2) := by decide +kernel
theorem d_Scr_readClause_19 : decode M_Scr_readClause.2.1 19 = .ok (.if_icmp .ne 8, 3) := by decide +kernel
theorem d_Scr_readClause_27 : decode M_Scr_readClause.2.1 27 = .ok (.ldc 66, 2) := by decide +kernel
theorem d_Scr_readClause_29 : decode M_Scr_readClause.2.1 29 = .ok (.astore_n 2, 1) := by decide +kernel
theorem d_Scr_readClause_30 : decode M_Scr_readClause.2.1 30 = .ok (.iconst 0, 1) := by decide +kernel
theorem d_Scr_readClause_31 : decode M_Scr_readClause.2.1 31 = .ok (.istore_n 3, 1) := by decide +kernel
theorem d_Scr_readClause_32 : decode M_Scr_readClause.2.1 32 = .ok (.iload_n 3, 1) := by decide +kernel
theorem d_Scr_readClause_33 : decode M_Scr_readClause.2.1 33 = .ok (.aload_n 2, 1) := by decide +kernel
theorem d_Scr_readClause_34 : decode M_Scr_readClause.2.1 34 = .ok (.invokevirtual 68, 3) := by decide +kernel
theorem ln_Scr_68 : Cond.methodLink "HandshakeBinds$Scribe" 68 M_JStr_length.1 ∈ TB := inTB 534 (by decide +kernel) rfl
theorem d_Scr_readClause_37 : decode M_Scr_readClause.2.1 37 = .ok (.if_icmp .ge 23, 3) := by decide +kernel
theorem d_Scr_readClause_60 : decode M_Scr_readClause.2.1 60 = .ok (.aload_n 0, 1) := by decide +kernel
theorem d_Scr_readClause_61 : decode M_Scr_readClause.2.1 61 = .ok (.bipush 32, 2) := by decide +kernel
theorem d_Scr_readClause_63 : decode M_Scr_readClause.2.1 63 = .ok (.invokevirtual 54, 3) := by decide +kernel
theorem d_Scr_readClause_66 : decode M_Scr_readClause.2.1 66 = .ok (.ifCond .ne 5, 3) := by decide +kernel
theorem d_Scr_readClause_71 : decode M_Scr_readClause.2.1 71 = .ok (.aload_n 0, 1) := by decide +kernel
theorem d_Scr_readClause_72 : decode M_Scr_readClause.2.1 72 = .ok (.invokevirtual 77, 3) := by decide +kernel
theorem d_Scr_readClause_75 : decode M_Scr_readClause.2.1 75 = .ok (.istore_n 3, 1) := by decide +kernel
theorem d_Scr_readClause_76 : decode M_Scr_readClause.2.1 76 = .ok (.iload_n 3, 1) := by decide +kernel
theorem d_Scr_readClause_77 : decode M_Scr_readClause.2.1 77 = .ok (.ifCond .ge 5, 3) := by decide +kernel
theorem d_Scr_readClause_82 : decode M_Scr_readClause.2.1 82 = .ok (.iload_n 1, 1) := by decide +kernel
theorem d_Scr_readClause_83 : decode M_Scr_readClause.2.1 83 = .ok (.bipush 98, 2) := by decide +kernel
theorem d_Scr_readClause_85 : decode M_Scr_readClause.2.1 85 = .ok (.if_icmp .ne 13, 3) := by decide +kernel
theorem d_Scr_readClause_88 : decode M_Scr_readClause.2.1 88 = .ok (.aload_n 0, 1) := by decide +kernel
theorem d_Scr_readClause_89 : decode M_Scr_readClause.2.1 89 = .ok (.getfield 26, 3) := by decide +kernel
theorem d_Scr_readClause_92 : decode M_Scr_readClause.2.1 92 = .ok (.iload_n 3, 1) := by decide +kernel
theorem d_Scr_readClause_93 : decode M_Scr_readClause.2.1 93 = .ok (.putfield 80, 3) := by decide +kernel
theorem pf_Scr_80 : PFn "HandshakeBinds$Scribe" 80 5 5 (.int) := ⟨_, _, _, t_Exc, rfl, by decide, i_Exc, t_Exc_ok, n_Exc, inNW 232 (by decide +kernel) rfl, rfl, t_Exc_ok 5 (by decide)⟩
theorem d_Scr_readClause_96 : decode M_Scr_readClause.2.1 96 = .ok (.iconst 1, 1) := by decide +kernel
theorem d_Scr_readClause_97 : decode M_Scr_readClause.2.1 97 = .ok (.ireturn, 1) := by decide +kernel
theorem d_Scr_readClause_80 : decode M_Scr_readClause.2.1 80 = .ok (.iconst 0, 1) := by decide +kernel
theorem d_Scr_readClause_81 : decode M_Scr_readClause.2.1 81 = .ok (.ireturn, 1) := by decide +kernel
theorem d_Scr_readClause_69 : decode M_Scr_readClause.2.1 69 = .ok (.iconst 0, 1) := by decide +kernel
theorem d_Scr_readClause_70 : decode M_Scr_readClause.2.1 70 = .ok (.ireturn, 1) := by decide +kernel
theorem d_Scr_readClause_40 : decode M_Scr_readClause.2.1 40 = .ok (.aload_n 0, 1) := by decide +kernel
theorem d_Scr_readClause_41 : decode M_Scr_readClause.2.1 41 = .ok (.aload_n 2, 1) := by decide +kernel
theorem d_Scr_readClause_42 : decode M_Scr_readClause.2.1 42 = .ok (.iload_n 3, 1) := by decide +kernel
theorem d_Scr_readClause_43 : decode M_Scr_readClause.2.1 43 = .ok (.invokevirtual 73, 3) := by decide +kernel
theorem ln_Scr_73 : Cond.methodLink "HandshakeBinds$Scribe" 73 M_JStr_charAt.1 ∈ TB := inTB 544 (by decide +kernel) rfl
theorem d_Scr_readClause_46 : decode M_Scr_readClause.2.1 46 = .ok (.invokevirtual 54, 3) := by decide +kernel
theorem d_Scr_readClause_49 : decode M_Scr_readClause.2.1 49 = .ok (.ifCond .ne 5, 3) := by decide +kernel
theorem d_Scr_readClause_54 : decode M_Scr_readClause.2.1 54 = .ok (.iinc 3 1, 3) := by decide +kernel
theorem d_Scr_readClause_57 : decode M_Scr_readClause.2.1 57 = .ok (.goto (-25), 3) := by decide +kernel
theorem d_Scr_readClause_52 : decode M_Scr_readClause.2.1 52 = .ok (.iconst 0, 1) := by decide +kernel
theorem d_Scr_readClause_53 : decode M_Scr_readClause.2.1 53 = .ok (.ireturn, 1) := by decide +kernel
theorem d_Scr_readClause_22 : decode M_Scr_readClause.2.1 22 = .ok (.ldc 64, 2) := by decide +kernel
theorem d_Scr_readClause_24 : decode M_Scr_readClause.2.1 24 = .ok (.goto 5, 3) := by decide +kernel
theorem d_Scr_readClause_98 : decode M_Scr_readClause.2.1 98 = .ok (.aload_n 0, 1) := by decide +kernel
theorem d_Scr_readClause_99 : decode M_Scr_readClause.2.1 99 = .ok (.bipush 32, 2) := by decide +kernel
theorem d_Scr_readClause_101 : decode M_Scr_readClause.2.1 101 = .ok (.invokevirtual 54, 3) := by decide +kernel
theorem d_Scr_readClause_104 : decode M_Scr_readClause.2.1 104 = .ok (.ifCond .eq 11, 3) := by decide +kernel
theorem d_Scr_readClause_115 : decode M_Scr_readClause.2.1 115 = .ok (.iconst 0, 1) := by decide +kernel
theorem d_Scr_readClause_116 : decode M_Scr_readClause.2.1 116 = .ok (.ireturn, 1) := by decide +kernel
theorem d_Scr_readClause_107 : decode M_Scr_readClause.2.1 107 = .ok (.aload_n 0, 1) := by decide +kernel
theorem d_Scr_readClause_108 : decode M_Scr_readClause.2.1 108 = .ok (.iconst 0, 1) := by decide +kernel
theorem d_Scr_readClause_109 : decode M_Scr_readClause.2.1 109 = .ok (.invokevirtual 82, 3) := by decide +kernel
theorem d_Scr_readClause_112 : decode M_Scr_readClause.2.1 112 = .ok (.ifCond .ne 5, 3) := by decide +kernel
theorem d_Scr_readClause_117 : decode M_Scr_readClause.2.1 117 = .ok (.aload_n 0, 1) := by decide +kernel
theorem d_Scr_readClause_118 : decode M_Scr_readClause.2.1 118 = .ok (.getfield 26, 3) := by decide +kernel
theorem d_Scr_readClause_121 : decode M_Scr_readClause.2.1 121 = .ok (.iload_n 1, 1) := by decide +kernel
theorem d_Scr_readClause_122 : decode M_Scr_readClause.2.1 122 = .ok (.bipush 102, 2) := by decide +kernel
theorem d_Scr_readClause_124 : decode M_Scr_readClause.2.1 124 = .ok (.if_icmp .ne 7, 3) := by decide +kernel
theorem d_Scr_readClause_131 : decode M_Scr_readClause.2.1 131 = .ok (.iload_n 3, 1) := by decide +kernel
theorem d_Scr_readClause_132 : decode M_Scr_readClause.2.1 132 = .ok (.ineg, 1) := by decide +kernel
theorem d_Scr_readClause_133 : decode M_Scr_readClause.2.1 133 = .ok (.invokevirtual 85, 3) := by decide +kernel
theorem ln_Scr_85 : Cond.methodLink "HandshakeBinds$Scribe" 85 M_Exc_endClause.1 ∈ TB := inTB 612 (by decide +kernel) rfl
theorem lk_Exc_endClause : LVt M_Exc_endClause 1 := ⟨⟨inTB 69 (by decide +kernel) rfl, inTB 615 (by decide +kernel) rfl, ⟨by decide, by decide, by decide +kernel⟩, by decide⟩, inTB 613 (by decide +kernel) rfl, inTB 614 (by decide +kernel) rfl⟩
theorem d_Scr_readClause_136 : decode M_Scr_readClause.2.1 136 = .ok (.iconst 1, 1) := by decide +kernel
theorem d_Scr_readClause_137 : decode M_Scr_readClause.2.1 137 = .ok (.ireturn, 1) := by decide +kernel
theorem d_Scr_readClause_11 : decode M_Scr_readClause.2.1 11 = .ok (.ldc 62, 2) := by decide +kernel
theorem d_Scr_readClause_13 : decode M_Scr_readClause.2.1 13 = .ok (.goto 16, 3) := by decide +kernel
theorem d_Scr_readClause_127 : decode M_Scr_readClause.2.1 127 = .ok (.iload_n 3, 1) := by decide +kernel
theorem d_Scr_readClause_128 : decode M_Scr_readClause.2.1 128 = .ok (.goto 5, 3) := by decide +kernel
def M_Scr_close : XM := (⟨"HandshakeBinds$Scribe", "close", "()I"⟩, prog_8_method_4_code, 3, (some .int))
theorem d_Scr_close_0 : decode M_Scr_close.2.1 0 = .ok (.aload_n 0, 1) := by decide +kernel
theorem d_Scr_close_1 : decode M_Scr_close.2.1 1 = .ok (.aload_n 0, 1) := by decide +kernel
theorem d_Scr_close_2 : decode M_Scr_close.2.1 2 = .ok (.aload_n 0, 1) := by decide +kernel
theorem d_Scr_close_3 : decode M_Scr_close.2.1 3 = .ok (.getfield 37, 3) := by decide +kernel
theorem gf_Scr_37 : GF "HandshakeBinds$Scribe" 37 6 4 := ⟨_, _, _, rfl, by decide, i_Scr, inTB 252 (by decide +kernel) rfl⟩
theorem d_Scr_close_6 : decode M_Scr_close.2.1 6 = .ok (.invokevirtual 40, 3) := by decide +kernel
theorem ln_Scr_40 : Cond.methodLink "HandshakeBinds$Scribe" 40 M_Scr_exchangeAt.1 ∈ TB := inTB 518 (by decide +kernel) rfl
theorem d_Scr_close_9 : decode M_Scr_close.2.1 9 = .ok (.putfield 26, 3) := by decide +kernel
theorem pf_Scr_26 : PF "HandshakeBinds$Scribe" 26 6 6 (.object "HandshakeBinds$Exchange") false := ⟨_, _, _, t_Scr, rfl, by decide, i_Scr, t_Scr_ok, n_Scr, inTB 255 (by decide +kernel) rfl, rfl, t_Scr_ok 6 (by decide), fun _ => rfl⟩
theorem d_Scr_close_12 : decode M_Scr_close.2.1 12 = .ok (.aload_n 0, 1) := by decide +kernel
theorem d_Scr_close_13 : decode M_Scr_close.2.1 13 = .ok (.getfield 26, 3) := by decide +kernel
theorem d_Scr_close_16 : decode M_Scr_close.2.1 16 = .ok (.invokevirtual 44, 3) := by decide +kernel
theorem ln_Scr_44 : Cond.methodLink "HandshakeBinds$Scribe" 44 M_Exc_clear.1 ∈ TB := inTB 519 (by decide +kernel) rfl
theorem lk_Exc_clear : LVt M_Exc_clear 0 := ⟨⟨inTB 69 (by decide +kernel) rfl, inTB 522 (by decide +kernel) rfl, ⟨by decide, by decide, by decide +kernel⟩, by decide⟩, inTB 520 (by decide +kernel) rfl, inTB 521 (by decide +kernel) rfl⟩
theorem d_Scr_close_19 : decode M_Scr_close.2.1 19 = .ok (.aload_n 0, 1) := by decide +kernel
theorem d_Scr_close_20 : decode M_Scr_close.2.1 20 = .ok (.iconst 0, 1) := by decide +kernel
theorem d_Scr_close_21 : decode M_Scr_close.2.1 21 = .ok (.putfield 47, 3) := by decide +kernel
theorem d_Scr_close_24 : decode M_Scr_close.2.1 24 = .ok (.aload_n 0, 1) := by decide +kernel
theorem d_Scr_close_25 : decode M_Scr_close.2.1 25 = .ok (.invokevirtual 50, 3) := by decide +kernel
theorem ln_Scr_50 : Cond.methodLink "HandshakeBinds$Scribe" 50 M_Scr_readClause.1 ∈ TB := inTB 523 (by decide +kernel) rfl
theorem lk_Scr_readClause : LVt M_Scr_readClause 0 := ⟨⟨inTB 68 (by decide +kernel) rfl, inTB 526 (by decide +kernel) rfl, ⟨by decide, by decide, by decide +kernel⟩, by decide⟩, inTB 525 (by decide +kernel) rfl, inTB 8 (by decide +kernel) rfl⟩
theorem d_Scr_close_28 : decode M_Scr_close.2.1 28 = .ok (.istore_n 1, 1) := by decide +kernel
theorem d_Scr_close_29 : decode M_Scr_close.2.1 29 = .ok (.iconst 1, 1) := by decide +kernel
theorem d_Scr_close_30 : decode M_Scr_close.2.1 30 = .ok (.istore_n 2, 1) := by decide +kernel
theorem d_Scr_close_31 : decode M_Scr_close.2.1 31 = .ok (.iload_n 2, 1) := by decide +kernel
theorem d_Scr_close_32 : decode M_Scr_close.2.1 32 = .ok (.bipush 10, 2) := by decide +kernel
theorem d_Scr_close_34 : decode M_Scr_close.2.1 34 = .ok (.if_icmp .ge 46, 3) := by decide +kernel
theorem d_Scr_close_80 : decode M_Scr_close.2.1 80 = .ok (.iload_n 1, 1) := by decide +kernel
theorem d_Scr_close_81 : decode M_Scr_close.2.1 81 = .ok (.ifCond .eq 18, 3) := by decide +kernel
theorem d_Scr_close_99 : decode M_Scr_close.2.1 99 = .ok (.iconst 0, 1) := by decide +kernel
theorem d_Scr_close_100 : decode M_Scr_close.2.1 100 = .ok (.istore_n 1, 1) := by decide +kernel
theorem d_Scr_close_101 : decode M_Scr_close.2.1 101 = .ok (.aload_n 0, 1) := by decide +kernel
theorem d_Scr_close_102 : decode M_Scr_close.2.1 102 = .ok (.iconst 0, 1) := by decide +kernel
theorem d_Scr_close_103 : decode M_Scr_close.2.1 103 = .ok (.putfield 29, 3) := by decide +kernel
theorem d_Scr_close_106 : decode M_Scr_close.2.1 106 = .ok (.iload_n 1, 1) := by decide +kernel
theorem d_Scr_close_107 : decode M_Scr_close.2.1 107 = .ok (.ifCond .ne 8, 3) := by decide +kernel
theorem d_Scr_close_110 : decode M_Scr_close.2.1 110 = .ok (.aload_n 0, 1) := by decide +kernel
theorem d_Scr_close_111 : decode M_Scr_close.2.1 111 = .ok (.getfield 47, 3) := by decide +kernel
theorem d_Scr_close_114 : decode M_Scr_close.2.1 114 = .ok (.ireturn, 1) := by decide +kernel
theorem d_Scr_close_84 : decode M_Scr_close.2.1 84 = .ok (.aload_n 0, 1) := by decide +kernel
theorem d_Scr_close_85 : decode M_Scr_close.2.1 85 = .ok (.getfield 47, 3) := by decide +kernel
theorem d_Scr_close_88 : decode M_Scr_close.2.1 88 = .ok (.aload_n 0, 1) := by decide +kernel
theorem d_Scr_close_89 : decode M_Scr_close.2.1 89 = .ok (.getfield 29, 3) := by decide +kernel
theorem d_Scr_close_92 : decode M_Scr_close.2.1 92 = .ok (.if_icmp .ne 7, 3) := by decide +kernel
theorem d_Scr_close_95 : decode M_Scr_close.2.1 95 = .ok (.iconst 1, 1) := by decide +kernel
theorem d_Scr_close_96 : decode M_Scr_close.2.1 96 = .ok (.goto 4, 3) := by decide +kernel
theorem d_Scr_close_115 : decode M_Scr_close.2.1 115 = .ok (.aload_n 0, 1) := by decide +kernel
theorem d_Scr_close_116 : decode M_Scr_close.2.1 116 = .ok (.dup, 1) := by decide +kernel
theorem d_Scr_close_117 : decode M_Scr_close.2.1 117 = .ok (.getfield 37, 3) := by decide +kernel
theorem d_Scr_close_120 : decode M_Scr_close.2.1 120 = .ok (.iconst 1, 1) := by decide +kernel
theorem d_Scr_close_121 : decode M_Scr_close.2.1 121 = .ok (.iadd, 1) := by decide +kernel
theorem d_Scr_close_122 : decode M_Scr_close.2.1 122 = .ok (.putfield 37, 3) := by decide +kernel
theorem pf_Scr_37 : PF "HandshakeBinds$Scribe" 37 6 4 (.int) false := ⟨_, _, _, t_Scr, rfl, by decide, i_Scr, t_Scr_ok, n_Scr, inTB 252 (by decide +kernel) rfl, rfl, t_Scr_ok 4 (by decide), fun _ => rfl⟩
theorem d_Scr_close_125 : decode M_Scr_close.2.1 125 = .ok (.iconst (-1), 1) := by decide +kernel
theorem d_Scr_close_126 : decode M_Scr_close.2.1 126 = .ok (.ireturn, 1) := by decide +kernel
theorem d_Scr_close_37 : decode M_Scr_close.2.1 37 = .ok (.iload_n 1, 1) := by decide +kernel
theorem d_Scr_close_38 : decode M_Scr_close.2.1 38 = .ok (.ifCond .eq 42, 3) := by decide +kernel
theorem d_Scr_close_41 : decode M_Scr_close.2.1 41 = .ok (.aload_n 0, 1) := by decide +kernel
theorem d_Scr_close_42 : decode M_Scr_close.2.1 42 = .ok (.getfield 47, 3) := by decide +kernel
theorem d_Scr_close_45 : decode M_Scr_close.2.1 45 = .ok (.aload_n 0, 1) := by decide +kernel
theorem d_Scr_close_46 : decode M_Scr_close.2.1 46 = .ok (.getfield 29, 3) := by decide +kernel
theorem d_Scr_close_49 : decode M_Scr_close.2.1 49 = .ok (.if_icmp .ge 31, 3) := by decide +kernel
theorem d_Scr_close_52 : decode M_Scr_close.2.1 52 = .ok (.aload_n 0, 1) := by decide +kernel
theorem d_Scr_close_53 : decode M_Scr_close.2.1 53 = .ok (.bipush 59, 2) := by decide +kernel
theorem d_Scr_close_55 : decode M_Scr_close.2.1 55 = .ok (.invokevirtual 54, 3) := by decide +kernel
theorem d_Scr_close_58 : decode M_Scr_close.2.1 58 = .ok (.ifCond .eq 14, 3) := by decide +kernel
theorem d_Scr_close_72 : decode M_Scr_close.2.1 72 = .ok (.iconst 0, 1) := by decide +kernel
theorem d_Scr_close_73 : decode M_Scr_close.2.1 73 = .ok (.istore_n 1, 1) := by decide +kernel
theorem d_Scr_close_74 : decode M_Scr_close.2.1 74 = .ok (.iinc 2 1, 3) := by decide +kernel
theorem d_Scr_close_77 : decode M_Scr_close.2.1 77 = .ok (.goto (-46), 3) := by decide +kernel
theorem d_Scr_close_61 : decode M_Scr_close.2.1 61 = .ok (.aload_n 0, 1) := by decide +kernel
theorem d_Scr_close_62 : decode M_Scr_close.2.1 62 = .ok (.invokevirtual 50, 3) := by decide +kernel
theorem d_Scr_close_65 : decode M_Scr_close.2.1 65 = .ok (.ifCond .eq 7, 3) := by decide +kernel
theorem d_Scr_close_68 : decode M_Scr_close.2.1 68 = .ok (.iconst 1, 1) := by decide +kernel
theorem d_Scr_close_69 : decode M_Scr_close.2.1 69 = .ok (.goto 4, 3) := by decide +kernel
theorem c_Scr_readClause (X : Xn) (a : Nat → Nat) (gg : Nat → Option Nat) (T : Nat → Int32) (n kn p k C b : Nat) (c s w : Nat → Int32) (tx : Nat → Nat) (hn : n ≤ 100) (hT : ∀ j, j < n → T j = nI (tx j)) (hct : ∀ j, tx j < 128)  (hp : p ≤ n) (hkp : k ≤ p) (hC : C < 10) : Does X 14 M_Scr_readClause [.ref (a 0)] (SV X a gg (a 3) T n kn p k C b c s w) 0 0 (RC X a gg T n kn p k C b c s w tx) := by
  generalize hQ : (RC X a gg T n kn p k C b c s w tx) = Q
  refine Does.go rfl (Nat.le_of_ble_eq_true rfl) [some (.ref (a 0)), none, none, none] 3 rfl ?_
  refine r_aload_n rfl 1 rfl d_Scr_readClause_0 ?_
  refine r_callVA1 (st2 := [.int (nx n tx p)]) (w2 := SV X a gg (a 3) T n kn p k C b c s w) lk_Scr_next ln_Scr_58 (c_Scr_next X a gg T n kn p k C b c s w tx hn hT hct (by omega)) (by first | decide | omega) rfl rfl (Nat.le_of_ble_eq_true rfl) (Nat.le_of_ble_eq_true rfl) (Nat.le_of_ble_eq_true rfl) 0 rfl rfl rfl rfl 4 rfl d_Scr_readClause_1 ?_
  refine r_istore_n (ls2 := [some (.ref (a 0)), some (.int (nx n tx p)), none, none]) 5 rfl d_Scr_readClause_4 (by decide) rfl rfl ?_
  refine r_iload_n rfl 6 rfl d_Scr_readClause_5 ?_
  refine r_bipush (nI 102) rfl 8 rfl d_Scr_readClause_6 ?_
  refine r_icmp_ne 11 16 rfl rfl d_Scr_readClause_8 (fun h8 => ?_) (fun h8 => ?_)
  · refine r_iload_n rfl 17 rfl d_Scr_readClause_16 ?_
    refine r_bipush (nI 108) rfl 19 rfl d_Scr_readClause_17 ?_
    refine r_icmp_ne 22 27 rfl rfl d_Scr_readClause_19 (fun h19 => ?_) (fun h19 => ?_)
    · refine r_ldcS 2 (by decide) rfl rfl 29 rfl d_Scr_readClause_27 ?_
      refine r_astore_n (ls2 := [some (.ref (a 0)), some (.int (nx n tx p)), some (.ref (X.2.2.2 (10 + 2))), none]) 30 rfl d_Scr_readClause_29 (by decide) rfl rfl ?_
      refine r_iconst (nI 0) rfl 31 rfl d_Scr_readClause_30 ?_
      refine r_istore_n (ls2 := [some (.ref (a 0)), some (.int (nx n tx p)), some (.ref (X.2.2.2 (10 + 2))), some (.int (nI 0))]) 32 rfl d_Scr_readClause_31 (by decide) rfl rfl ?_
      have hcl : clQ n tx p 2 := cl_2 hp hct h8 h19
      have hl4 : litL.getD 2 0 = 4 := rfl
      have hl5 : (litC 2).length = 4 := by decide +kernel
      have L32_1 : ∀ (f : Nat) (j : Nat) (q : Nat), (j ≤ 4) → (aAll n tx ((litC 2).drop j) q = aAll n tx (litC 2) p) → (q ≤ n) → (p ≤ q) → 4 - j < f → Runs X 14 M_Scr_readClause 0 0 Q 32 [some (.ref (a 0)), some (.int (nx n tx p)), some (.ref (X.2.2.2 (10 + 2))), some (.int (nI j))] [] 0 0 (SV X a gg (a 3) T n kn q k C b c s w) := by
        intro f
        induction f with
        | zero => intro j q hj hr hq hqp hmu; exact absurd hmu (Nat.not_lt_zero _)
        | succ f ih2 =>
          intro j q hj hr hq hqp hmu
          refine r_iload_n rfl 33 rfl d_Scr_readClause_32 ?_
          refine r_aload_n rfl 34 rfl d_Scr_readClause_33 ?_
          refine r_callVs1 (st2 := [.int (nI (litL.getD 2 0)), .int (nI j)]) 2 (by decide) rfl lk_JStr_length ln_Scr_68 (c_JStr_length X 2 (by decide)) (by first | decide | omega) rfl rfl (Nat.le_of_ble_eq_true rfl) (Nat.le_of_ble_eq_true rfl) (Nat.le_of_ble_eq_true rfl) rfl 37 rfl d_Scr_readClause_34 ?_
          refine r_icmp_geN j (litL.getD 2 0) (by omega) (by omega) 40 60 rfl rfl d_Scr_readClause_37 (fun h37 => ?_) (fun h37 => ?_)
          · have hA2 : aAll n tx (litC 2) p = (true, q) := by rw [← hr, List.drop_eq_nil_of_le (by omega)]; rfl
            refine r_aload_n rfl 61 rfl d_Scr_readClause_60 ?_
            refine r_bipush (nI 32) rfl 63 rfl d_Scr_readClause_61 ?_
            refine r_callVA1 (st2 := [.int (bI (aIs n tx 32 q))]) (w2 := SV X a gg (a 3) T n kn (tkP n tx 32 q) k C b c s w) lk_Scr_take ln_Scr_54 (c_Scr_take X a gg T n kn q k C b c s w tx hn hT hct 32 (by omega) (by decide)) (by first | decide | omega) rfl rfl (Nat.le_of_ble_eq_true rfl) (Nat.le_of_ble_eq_true rfl) (Nat.le_of_ble_eq_true rfl) 0 rfl rfl rfl rfl 66 rfl d_Scr_readClause_63 ?_
            refine r_if_neB 69 71 rfl rfl d_Scr_readClause_66 (fun h66 => ?_) (fun h66 => ?_)
            · rw [tkP_t h66]
              have hlt66 := (aIs_t h66 (by omega)).1
              have hA3 : aAll n tx (litC (3 + 2)) p = (true, q + 1) := by rw [aAll_w (by decide), hA2]; show (aIs n tx 32 q, tkP n tx 32 q) = (true, q + 1); rw [h66, tkP_t h66]
              refine r_aload_n rfl 72 rfl d_Scr_readClause_71 ?_
              refine r_callVA1 (st2 := [.int (nmV (aNum n tx (q + 1)))]) (w2 := SV X a gg (a 3) T n kn ((aNum n tx (q + 1)).2.1) k C b c s w) lk_Scr_readNumber ln_Scr_77 (c_Scr_readNumber X a gg T n kn (q + 1) k C b c s w tx hn hT hct (by omega)) (by first | decide | omega) rfl rfl (Nat.le_of_ble_eq_true rfl) (Nat.le_of_ble_eq_true rfl) (Nat.le_of_ble_eq_true rfl) 0 rfl rfl rfl rfl 75 rfl d_Scr_readClause_72 ?_
              have hNg := aNum_g (n := n) (tx := tx) (p := (q + 1)) (by omega)
              by_cases hN : (aNum n tx (q + 1)).1 = true
              · have hNs := hNg.2.2 hN
                refine r_topi (nI (aNum n tx (q + 1)).2.2) (if_pos hN) ?_
                refine r_istore_n (ls2 := [some (.ref (a 0)), some (.int (nx n tx p)), some (.ref (X.2.2.2 (10 + 2))), some (.int (nI ((aNum n tx (q + 1)).2.2)))]) 76 rfl d_Scr_readClause_75 (by decide) rfl rfl ?_
                refine r_iload_n rfl 77 rfl d_Scr_readClause_76 ?_
                refine r_if_geN_t ((aNum n tx (q + 1)).2.2) (Nat.lt_trans aNum_v (by decide)) 82 rfl d_Scr_readClause_77 (Nat.zero_le _) ?_
                refine r_iload_n rfl 83 rfl d_Scr_readClause_82 ?_
                refine r_bipush (nI 98) rfl 85 rfl d_Scr_readClause_83 ?_
                refine r_icmp_ne_f 88 rfl 98 rfl d_Scr_readClause_85 ((nx_eq hp hct (by decide)).mpr (aAll_b hA2)) ?_
                refine r_aload_n rfl 89 rfl d_Scr_readClause_88 ?_
                refine r_getf (v := .ref (a 3)) gf_Scr_26 0 rfl rfl 92 rfl d_Scr_readClause_89 ?_
                refine r_iload_n rfl 93 rfl d_Scr_readClause_92 ?_
                refine r_putfn (w2 := SV X a gg (a 3) T n kn ((aNum n tx (q + 1)).2.1) k C ((aNum n tx (q + 1)).2.2) c s w) pf_Scr_80 3 rfl (rfl) rfl (Nat.le_of_ble_eq_true rfl) rfl 96 rfl d_Scr_readClause_93 ?_
                refine r_iconst (nI 1) rfl 97 rfl d_Scr_readClause_96 ?_
                exact r_zret rfl (rfl) (Nat.zero_le _) (Nat.zero_le _) d_Scr_readClause_97 (by rw [← hQ]; exact RC_t hcl (aCk_b hA3 hN (by decide)) (show k + p ≤ k + (aNum n tx (q + 1)).2.1 by omega) ⟨rfl, rfl, rfl, rfl, rfl, rfl⟩)
              · refine r_topi (-1) (if_neg hN) ?_
                refine r_istore_n (ls2 := [some (.ref (a 0)), some (.int (nx n tx p)), some (.ref (X.2.2.2 (10 + 2))), some (.int (-1))]) 76 rfl d_Scr_readClause_75 (by decide) rfl rfl ?_
                refine r_iload_n rfl 77 rfl d_Scr_readClause_76 ?_
                refine r_if_ge_f 80 rfl 82 rfl d_Scr_readClause_77 (by decide) ?_
                refine r_iconst (nI 0) rfl 81 rfl d_Scr_readClause_80 ?_
                exact r_zret rfl (rfl) (Nat.zero_le _) (Nat.zero_le _) d_Scr_readClause_81 (by rw [← hQ]; exact RC_f hcl (aCk_f2 hA3 hN) (show k + p ≤ k + (aNum n tx (q + 1)).2.1 by omega))
            · rw [tkP_f h66]
              refine r_iconst (nI 0) rfl 70 rfl d_Scr_readClause_69 ?_
              exact r_zret rfl (rfl) (Nat.zero_le _) (Nat.zero_le _) d_Scr_readClause_70 (by rw [← hQ]; exact RC_f hcl (aCk_f1 (by rw [aAll_w (by decide), hA2]; show (aIs n tx 32 q, tkP n tx 32 q) = (false, q); rw [h66, tkP_f h66])) (show k + p ≤ k + q by omega))
          · refine r_aload_n rfl 41 rfl d_Scr_readClause_40 ?_
            refine r_aload_n rfl 42 rfl d_Scr_readClause_41 ?_
            refine r_iload_n rfl 43 rfl d_Scr_readClause_42 ?_
            refine r_callVs1 (st2 := [.int (chS 2 j), .ref (a 0)]) 2 (by decide) rfl lk_JStr_charAt ln_Scr_73 (c_JStr_charAt X 2 (by decide) j (by omega) (by omega)) (by first | decide | omega) rfl rfl (Nat.le_of_ble_eq_true rfl) (Nat.le_of_ble_eq_true rfl) (Nat.le_of_ble_eq_true rfl) rfl 46 rfl d_Scr_readClause_43 ?_
            have hch := aLit ⟨2, by decide⟩ ⟨j, by omega⟩ (show j < litL.getD 2 0 by omega)
            simp only at hch
            refine r_topi (nI ((litC 2).getD j 0)) (hch.1) ?_
            refine r_callVA1 (st2 := [.int (bI (aIs n tx ((litC 2).getD j 0) q))]) (w2 := SV X a gg (a 3) T n kn (tkP n tx ((litC 2).getD j 0) q) k C b c s w) lk_Scr_take ln_Scr_54 (c_Scr_take X a gg T n kn q k C b c s w tx hn hT hct ((litC 2).getD j 0) (by omega) (hch.2)) (by first | decide | omega) rfl rfl (Nat.le_of_ble_eq_true rfl) (Nat.le_of_ble_eq_true rfl) (Nat.le_of_ble_eq_true rfl) 0 rfl rfl rfl rfl 49 rfl d_Scr_readClause_46 ?_
            refine r_if_neB 52 54 rfl rfl d_Scr_readClause_49 (fun h49 => ?_) (fun h49 => ?_)
            · rw [tkP_t h49]
              have hlt49 := (aIs_t h49 (by omega)).1
              refine r_iinc (ls2 := [some (.ref (a 0)), some (.int (nx n tx p)), some (.ref (X.2.2.2 (10 + 2))), some (.int (nI (j + 1)))]) (nI (j + 1)) rfl (nI_1 _) 57 rfl d_Scr_readClause_54 (by decide) rfl rfl ?_
              refine r_goto 32 rfl d_Scr_readClause_57 ?_
              have hcl : clQ n tx p 2 := cl_2 hp hct h8 h19
              have hl4 : litL.getD 2 0 = 4 := rfl
              have hl5 : (litC 2).length = 4 := by decide +kernel
              exact ih2 (j + 1) (q + 1) (by omega) (by rw [← hr, aAll_s (k := j) (by omega), if_pos h49]) (by omega) (by omega) (by omega)
            · rw [tkP_f h49]
              refine r_iconst (nI 0) rfl 53 rfl d_Scr_readClause_52 ?_
              exact r_zret rfl (rfl) (Nat.zero_le _) (Nat.zero_le _) d_Scr_readClause_53 (by rw [← hQ]; exact RC_f hcl (aCk_f1 (by rw [aAll_w (by decide), show aAll n tx (litC 2) p = (false, q) from by rw [← hr, aAll_s (k := j) (by omega), if_neg (by rw [h49]; decide)]]; rfl)) (show k + p ≤ k + q by omega))
      exact L32_1 _ 0 p (Nat.zero_le _) (rfl) (hp) (Nat.le_refl _) (Nat.lt_succ_self _)
    · refine r_ldcS 1 (by decide) rfl rfl 24 rfl d_Scr_readClause_22 ?_
      refine r_goto 29 rfl d_Scr_readClause_24 ?_
      refine r_astore_n (ls2 := [some (.ref (a 0)), some (.int (nx n tx p)), some (.ref (X.2.2.2 (10 + 1))), none]) 30 rfl d_Scr_readClause_29 (by decide) rfl rfl ?_
      refine r_iconst (nI 0) rfl 31 rfl d_Scr_readClause_30 ?_
      refine r_istore_n (ls2 := [some (.ref (a 0)), some (.int (nx n tx p)), some (.ref (X.2.2.2 (10 + 1))), some (.int (nI 0))]) 32 rfl d_Scr_readClause_31 (by decide) rfl rfl ?_
      have hcl : clQ n tx p 1 := cl_1 hp hct h19
      have hl4 : litL.getD 1 0 = 4 := rfl
      have hl5 : (litC 1).length = 4 := by decide +kernel
      have L32_3 : ∀ (f : Nat) (j : Nat) (q : Nat), (j ≤ 4) → (aAll n tx ((litC 1).drop j) q = aAll n tx (litC 1) p) → (q ≤ n) → (p ≤ q) → 4 - j < f → Runs X 14 M_Scr_readClause 0 0 Q 32 [some (.ref (a 0)), some (.int (nx n tx p)), some (.ref (X.2.2.2 (10 + 1))), some (.int (nI j))] [] 0 0 (SV X a gg (a 3) T n kn q k C b c s w) := by
        intro f
        induction f with
        | zero => intro j q hj hr hq hqp hmu; exact absurd hmu (Nat.not_lt_zero _)
        | succ f ih4 =>
          intro j q hj hr hq hqp hmu
          refine r_iload_n rfl 33 rfl d_Scr_readClause_32 ?_
          refine r_aload_n rfl 34 rfl d_Scr_readClause_33 ?_
          refine r_callVs1 (st2 := [.int (nI (litL.getD 1 0)), .int (nI j)]) 1 (by decide) rfl lk_JStr_length ln_Scr_68 (c_JStr_length X 1 (by decide)) (by first | decide | omega) rfl rfl (Nat.le_of_ble_eq_true rfl) (Nat.le_of_ble_eq_true rfl) (Nat.le_of_ble_eq_true rfl) rfl 37 rfl d_Scr_readClause_34 ?_
          refine r_icmp_geN j (litL.getD 1 0) (by omega) (by omega) 40 60 rfl rfl d_Scr_readClause_37 (fun h37 => ?_) (fun h37 => ?_)
          · have hA2 : aAll n tx (litC 1) p = (true, q) := by rw [← hr, List.drop_eq_nil_of_le (by omega)]; rfl
            refine r_aload_n rfl 61 rfl d_Scr_readClause_60 ?_
            refine r_bipush (nI 32) rfl 63 rfl d_Scr_readClause_61 ?_
            refine r_callVA1 (st2 := [.int (bI (aIs n tx 32 q))]) (w2 := SV X a gg (a 3) T n kn (tkP n tx 32 q) k C b c s w) lk_Scr_take ln_Scr_54 (c_Scr_take X a gg T n kn q k C b c s w tx hn hT hct 32 (by omega) (by decide)) (by first | decide | omega) rfl rfl (Nat.le_of_ble_eq_true rfl) (Nat.le_of_ble_eq_true rfl) (Nat.le_of_ble_eq_true rfl) 0 rfl rfl rfl rfl 66 rfl d_Scr_readClause_63 ?_
            refine r_if_neB 69 71 rfl rfl d_Scr_readClause_66 (fun h66 => ?_) (fun h66 => ?_)
            · rw [tkP_t h66]
              have hlt66 := (aIs_t h66 (by omega)).1
              have hA3 : aAll n tx (litC (3 + 1)) p = (true, q + 1) := by rw [aAll_w (by decide), hA2]; show (aIs n tx 32 q, tkP n tx 32 q) = (true, q + 1); rw [h66, tkP_t h66]
              refine r_aload_n rfl 72 rfl d_Scr_readClause_71 ?_
              refine r_callVA1 (st2 := [.int (nmV (aNum n tx (q + 1)))]) (w2 := SV X a gg (a 3) T n kn ((aNum n tx (q + 1)).2.1) k C b c s w) lk_Scr_readNumber ln_Scr_77 (c_Scr_readNumber X a gg T n kn (q + 1) k C b c s w tx hn hT hct (by omega)) (by first | decide | omega) rfl rfl (Nat.le_of_ble_eq_true rfl) (Nat.le_of_ble_eq_true rfl) (Nat.le_of_ble_eq_true rfl) 0 rfl rfl rfl rfl 75 rfl d_Scr_readClause_72 ?_
              have hNg := aNum_g (n := n) (tx := tx) (p := (q + 1)) (by omega)
              by_cases hN : (aNum n tx (q + 1)).1 = true
              · have hNs := hNg.2.2 hN
                refine r_topi (nI (aNum n tx (q + 1)).2.2) (if_pos hN) ?_
                refine r_istore_n (ls2 := [some (.ref (a 0)), some (.int (nx n tx p)), some (.ref (X.2.2.2 (10 + 1))), some (.int (nI ((aNum n tx (q + 1)).2.2)))]) 76 rfl d_Scr_readClause_75 (by decide) rfl rfl ?_
                refine r_iload_n rfl 77 rfl d_Scr_readClause_76 ?_
                refine r_if_geN_t ((aNum n tx (q + 1)).2.2) (Nat.lt_trans aNum_v (by decide)) 82 rfl d_Scr_readClause_77 (Nat.zero_le _) ?_
                refine r_iload_n rfl 83 rfl d_Scr_readClause_82 ?_
                refine r_bipush (nI 98) rfl 85 rfl d_Scr_readClause_83 ?_
                refine r_icmp_ne_t 98 rfl d_Scr_readClause_85 (by rw [h19]; decide) ?_
                refine r_aload_n rfl 99 rfl d_Scr_readClause_98 ?_
                refine r_bipush (nI 32) rfl 101 rfl d_Scr_readClause_99 ?_
                refine r_callVA1 (st2 := [.int (bI (aIs n tx 32 ((aNum n tx (q + 1)).2.1)))]) (w2 := SV X a gg (a 3) T n kn (tkP n tx 32 ((aNum n tx (q + 1)).2.1)) k C b c s w) lk_Scr_take ln_Scr_54 (c_Scr_take X a gg T n kn ((aNum n tx (q + 1)).2.1) k C b c s w tx hn hT hct 32 (by omega) (by decide)) (by first | decide | omega) rfl rfl (Nat.le_of_ble_eq_true rfl) (Nat.le_of_ble_eq_true rfl) (Nat.le_of_ble_eq_true rfl) 0 rfl rfl rfl rfl 104 rfl d_Scr_readClause_101 ?_
                refine r_if_eqB 107 115 rfl rfl d_Scr_readClause_104 (fun h104 => ?_) (fun h104 => ?_)
                · rw [tkP_f h104]
                  refine r_iconst (nI 0) rfl 116 rfl d_Scr_readClause_115 ?_
                  exact r_zret rfl (rfl) (Nat.zero_le _) (Nat.zero_le _) d_Scr_readClause_116 (by rw [← hQ]; exact RC_f hcl (aCk_f3 hA3 hN (by decide) h104) (show k + p ≤ k + (aNum n tx (q + 1)).2.1 by omega))
                · rw [tkP_t h104]
                  have hlt104 := (aIs_t h104 (by omega)).1
                  refine r_aload_n rfl 108 rfl d_Scr_readClause_107 ?_
                  refine r_iconst (nI 0) rfl 109 rfl d_Scr_readClause_108 ?_
                  refine r_callVAQ (st2 := []) (w2 := []) lk_Scr_readCondition ln_Scr_82 ((c_Scr_readCondition X a gg T n kn (((aNum n tx (q + 1)).2.1) + 1) k C b c s w tx hn hT hct (aF n tx 4) 4 12 (by decide) (fun D p k c h1 h2 h3 => c_Scr_readFactor X a gg T n kn C b s w tx hn hT hct 4 D p k c h1 h2 h3) (fun p hp => aF_g (by decide) hp) 0 (by omega) (by omega) rfl).mono (fun v w2 hq => RQ_same (r2 := aEx n tx (((aNum n tx (q + 1)).2.1) + 1)) (cC_row hn (by decide) (by omega)) hq)) (by first | decide | omega) rfl rfl (Nat.le_of_ble_eq_true rfl) (Nat.le_of_ble_eq_true rfl) (Nat.le_of_ble_eq_true rfl) 0 rfl rfl 112 rfl d_Scr_readClause_109 (fun vv ww hq2 => ?_)
                  obtain ⟨rfl, k9, c9, rfl, hk9, hc9⟩ := hq2
                  refine ⟨rfl, ?_⟩
                  show Runs X 14 M_Scr_readClause 0 0 Q 112 [some (.ref (a 0)), some (.int (nx n tx p)), some (.ref (X.2.2.2 (10 + 1))), some (.int (nI ((aNum n tx (q + 1)).2.2)))] [.int (bI ((aEx n tx (((aNum n tx (q + 1)).2.1) + 1)).1))] 0 0 (SV X a gg (a 3) T n kn ((aEx n tx (((aNum n tx (q + 1)).2.1) + 1)).2.1) k9 C b c9 s w)
                  refine r_if_neB 115 117 rfl rfl d_Scr_readClause_112 (fun h112 => ?_) (fun h112 => ?_)
                  · obtain ⟨rfl, rfl⟩ := hc9 h112
                    have hG1 := aEx_g (n := n) (p := (aNum n tx (q + 1)).2.1 + 1) (tx := tx) (by omega)
                    unfold aG at hG1
                    refine r_aload_n rfl 118 rfl d_Scr_readClause_117 ?_
                    refine r_getf (v := .ref (a 3)) gf_Scr_26 0 rfl rfl 121 rfl d_Scr_readClause_118 ?_
                    refine r_iload_n rfl 122 rfl d_Scr_readClause_121 ?_
                    refine r_bipush (nI 102) rfl 124 rfl d_Scr_readClause_122 ?_
                    refine r_icmp_ne_t 131 rfl d_Scr_readClause_124 (by rw [h19]; decide) ?_
                    refine r_iload_n rfl 132 rfl d_Scr_readClause_131 ?_
                    refine r_ineg 133 rfl d_Scr_readClause_132 ?_
                    refine r_callV1 (st2 := []) (w2 := SV X a gg (a 3) T n kn ((aEx n tx (((aNum n tx (q + 1)).2.1) + 1)).2.1) (k + (aEx n tx (((aNum n tx (q + 1)).2.1) + 1)).2.2.length) (C + 1) b (putS c k (aEx n tx (((aNum n tx (q + 1)).2.1) + 1)).2.2) (upd s C (nI (k + (aEx n tx (((aNum n tx (q + 1)).2.1) + 1)).2.2.length))) (upd w C (-(nI ((aNum n tx (q + 1)).2.2))))) lk_Exc_endClause ln_Scr_85 (c_Exc_endClause X (pl [3, 4, 5, 6] a) (nE (k + (aEx n tx (((aNum n tx (q + 1)).2.1) + 1)).2.2.length) C b) (sE (putS c k (aEx n tx (((aNum n tx (q + 1)).2.1) + 1)).2.2) s w) (fun _ _ => 0) (-(nI ((aNum n tx (q + 1)).2.2))) (show C < 10 by omega)) (by first | decide | omega) rfl rfl (Nat.le_of_ble_eq_true rfl) (Nat.le_of_ble_eq_true rfl) (Nat.le_of_ble_eq_true rfl) [3, 4, 5, 6] rfl rfl 0 rfl rfl rfl rfl rfl 136 rfl d_Scr_readClause_133 ?_
                    refine r_iconst (nI 1) rfl 137 rfl d_Scr_readClause_136 ?_
                    exact r_zret rfl (rfl) (Nat.zero_le _) (Nat.zero_le _) d_Scr_readClause_137 (by rw [← hQ]; exact RC_t hcl ((aCk_e hA3 hN (by decide) h104).trans (by rw [h112])) (show k + (aEx n tx ((aNum n tx (q + 1)).2.1 + 1)).2.2.length + p ≤ k + (aEx n tx ((aNum n tx (q + 1)).2.1 + 1)).2.1 by omega) ⟨rfl, rfl, rfl, rfl, rfl, rfl⟩)
                  · have hG1 := aEx_g (n := n) (p := (aNum n tx (q + 1)).2.1 + 1) (tx := tx) (by omega)
                    unfold aG at hG1
                    refine r_iconst (nI 0) rfl 116 rfl d_Scr_readClause_115 ?_
                    exact r_zret rfl (rfl) (Nat.zero_le _) (Nat.zero_le _) d_Scr_readClause_116 (by rw [← hQ]; exact RC_f hcl ((aCk_e hA3 hN (by decide) h104).trans (by rw [h112])) (show k9 + p ≤ k + (aEx n tx ((aNum n tx (q + 1)).2.1 + 1)).2.1 by omega))
              · refine r_topi (-1) (if_neg hN) ?_
                refine r_istore_n (ls2 := [some (.ref (a 0)), some (.int (nx n tx p)), some (.ref (X.2.2.2 (10 + 1))), some (.int (-1))]) 76 rfl d_Scr_readClause_75 (by decide) rfl rfl ?_
                refine r_iload_n rfl 77 rfl d_Scr_readClause_76 ?_
                refine r_if_ge_f 80 rfl 82 rfl d_Scr_readClause_77 (by decide) ?_
                refine r_iconst (nI 0) rfl 81 rfl d_Scr_readClause_80 ?_
                exact r_zret rfl (rfl) (Nat.zero_le _) (Nat.zero_le _) d_Scr_readClause_81 (by rw [← hQ]; exact RC_f hcl (aCk_f2 hA3 hN) (show k + p ≤ k + (aNum n tx (q + 1)).2.1 by omega))
            · rw [tkP_f h66]
              refine r_iconst (nI 0) rfl 70 rfl d_Scr_readClause_69 ?_
              exact r_zret rfl (rfl) (Nat.zero_le _) (Nat.zero_le _) d_Scr_readClause_70 (by rw [← hQ]; exact RC_f hcl (aCk_f1 (by rw [aAll_w (by decide), hA2]; show (aIs n tx 32 q, tkP n tx 32 q) = (false, q); rw [h66, tkP_f h66])) (show k + p ≤ k + q by omega))
          · refine r_aload_n rfl 41 rfl d_Scr_readClause_40 ?_
            refine r_aload_n rfl 42 rfl d_Scr_readClause_41 ?_
            refine r_iload_n rfl 43 rfl d_Scr_readClause_42 ?_
            refine r_callVs1 (st2 := [.int (chS 1 j), .ref (a 0)]) 1 (by decide) rfl lk_JStr_charAt ln_Scr_73 (c_JStr_charAt X 1 (by decide) j (by omega) (by omega)) (by first | decide | omega) rfl rfl (Nat.le_of_ble_eq_true rfl) (Nat.le_of_ble_eq_true rfl) (Nat.le_of_ble_eq_true rfl) rfl 46 rfl d_Scr_readClause_43 ?_
            have hch := aLit ⟨1, by decide⟩ ⟨j, by omega⟩ (show j < litL.getD 1 0 by omega)
            simp only at hch
            refine r_topi (nI ((litC 1).getD j 0)) (hch.1) ?_
            refine r_callVA1 (st2 := [.int (bI (aIs n tx ((litC 1).getD j 0) q))]) (w2 := SV X a gg (a 3) T n kn (tkP n tx ((litC 1).getD j 0) q) k C b c s w) lk_Scr_take ln_Scr_54 (c_Scr_take X a gg T n kn q k C b c s w tx hn hT hct ((litC 1).getD j 0) (by omega) (hch.2)) (by first | decide | omega) rfl rfl (Nat.le_of_ble_eq_true rfl) (Nat.le_of_ble_eq_true rfl) (Nat.le_of_ble_eq_true rfl) 0 rfl rfl rfl rfl 49 rfl d_Scr_readClause_46 ?_
            refine r_if_neB 52 54 rfl rfl d_Scr_readClause_49 (fun h49 => ?_) (fun h49 => ?_)
            · rw [tkP_t h49]
              have hlt49 := (aIs_t h49 (by omega)).1
              refine r_iinc (ls2 := [some (.ref (a 0)), some (.int (nx n tx p)), some (.ref (X.2.2.2 (10 + 1))), some (.int (nI (j + 1)))]) (nI (j + 1)) rfl (nI_1 _) 57 rfl d_Scr_readClause_54 (by decide) rfl rfl ?_
              refine r_goto 32 rfl d_Scr_readClause_57 ?_
              have hcl : clQ n tx p 1 := cl_1 hp hct h19
              have hl4 : litL.getD 1 0 = 4 := rfl
              have hl5 : (litC 1).length = 4 := by decide +kernel
              exact ih4 (j + 1) (q + 1) (by omega) (by rw [← hr, aAll_s (k := j) (by omega), if_pos h49]) (by omega) (by omega) (by omega)
            · rw [tkP_f h49]
              refine r_iconst (nI 0) rfl 53 rfl d_Scr_readClause_52 ?_
              exact r_zret rfl (rfl) (Nat.zero_le _) (Nat.zero_le _) d_Scr_readClause_53 (by rw [← hQ]; exact RC_f hcl (aCk_f1 (by rw [aAll_w (by decide), show aAll n tx (litC 1) p = (false, q) from by rw [← hr, aAll_s (k := j) (by omega), if_neg (by rw [h49]; decide)]]; rfl)) (show k + p ≤ k + q by omega))
      exact L32_3 _ 0 p (Nat.zero_le _) (rfl) (hp) (Nat.le_refl _) (Nat.lt_succ_self _)
  · refine r_ldcS 0 (by decide) rfl rfl 13 rfl d_Scr_readClause_11 ?_
    refine r_goto 29 rfl d_Scr_readClause_13 ?_
    refine r_astore_n (ls2 := [some (.ref (a 0)), some (.int (nx n tx p)), some (.ref (X.2.2.2 (10 + 0))), none]) 30 rfl d_Scr_readClause_29 (by decide) rfl rfl ?_
    refine r_iconst (nI 0) rfl 31 rfl d_Scr_readClause_30 ?_
    refine r_istore_n (ls2 := [some (.ref (a 0)), some (.int (nx n tx p)), some (.ref (X.2.2.2 (10 + 0))), some (.int (nI 0))]) 32 rfl d_Scr_readClause_31 (by decide) rfl rfl ?_
    have hcl : clQ n tx p 0 := cl_0 hp hct h8
    have hl4 : litL.getD 0 0 = 4 := rfl
    have hl5 : (litC 0).length = 4 := by decide +kernel
    have L32_5 : ∀ (f : Nat) (j : Nat) (q : Nat), (j ≤ 4) → (aAll n tx ((litC 0).drop j) q = aAll n tx (litC 0) p) → (q ≤ n) → (p ≤ q) → 4 - j < f → Runs X 14 M_Scr_readClause 0 0 Q 32 [some (.ref (a 0)), some (.int (nx n tx p)), some (.ref (X.2.2.2 (10 + 0))), some (.int (nI j))] [] 0 0 (SV X a gg (a 3) T n kn q k C b c s w) := by
      intro f
      induction f with
      | zero => intro j q hj hr hq hqp hmu; exact absurd hmu (Nat.not_lt_zero _)
      | succ f ih6 =>
        intro j q hj hr hq hqp hmu
        refine r_iload_n rfl 33 rfl d_Scr_readClause_32 ?_
        refine r_aload_n rfl 34 rfl d_Scr_readClause_33 ?_
        refine r_callVs1 (st2 := [.int (nI (litL.getD 0 0)), .int (nI j)]) 0 (by decide) rfl lk_JStr_length ln_Scr_68 (c_JStr_length X 0 (by decide)) (by first | decide | omega) rfl rfl (Nat.le_of_ble_eq_true rfl) (Nat.le_of_ble_eq_true rfl) (Nat.le_of_ble_eq_true rfl) rfl 37 rfl d_Scr_readClause_34 ?_
        refine r_icmp_geN j (litL.getD 0 0) (by omega) (by omega) 40 60 rfl rfl d_Scr_readClause_37 (fun h37 => ?_) (fun h37 => ?_)
        · have hA2 : aAll n tx (litC 0) p = (true, q) := by rw [← hr, List.drop_eq_nil_of_le (by omega)]; rfl
          refine r_aload_n rfl 61 rfl d_Scr_readClause_60 ?_
          refine r_bipush (nI 32) rfl 63 rfl d_Scr_readClause_61 ?_
          refine r_callVA1 (st2 := [.int (bI (aIs n tx 32 q))]) (w2 := SV X a gg (a 3) T n kn (tkP n tx 32 q) k C b c s w) lk_Scr_take ln_Scr_54 (c_Scr_take X a gg T n kn q k C b c s w tx hn hT hct 32 (by omega) (by decide)) (by first | decide | omega) rfl rfl (Nat.le_of_ble_eq_true rfl) (Nat.le_of_ble_eq_true rfl) (Nat.le_of_ble_eq_true rfl) 0 rfl rfl rfl rfl 66 rfl d_Scr_readClause_63 ?_
          refine r_if_neB 69 71 rfl rfl d_Scr_readClause_66 (fun h66 => ?_) (fun h66 => ?_)
          · rw [tkP_t h66]
            have hlt66 := (aIs_t h66 (by omega)).1
            have hA3 : aAll n tx (litC (3 + 0)) p = (true, q + 1) := by rw [aAll_w (by decide), hA2]; show (aIs n tx 32 q, tkP n tx 32 q) = (true, q + 1); rw [h66, tkP_t h66]
            refine r_aload_n rfl 72 rfl d_Scr_readClause_71 ?_
            refine r_callVA1 (st2 := [.int (nmV (aNum n tx (q + 1)))]) (w2 := SV X a gg (a 3) T n kn ((aNum n tx (q + 1)).2.1) k C b c s w) lk_Scr_readNumber ln_Scr_77 (c_Scr_readNumber X a gg T n kn (q + 1) k C b c s w tx hn hT hct (by omega)) (by first | decide | omega) rfl rfl (Nat.le_of_ble_eq_true rfl) (Nat.le_of_ble_eq_true rfl) (Nat.le_of_ble_eq_true rfl) 0 rfl rfl rfl rfl 75 rfl d_Scr_readClause_72 ?_
            have hNg := aNum_g (n := n) (tx := tx) (p := (q + 1)) (by omega)
            by_cases hN : (aNum n tx (q + 1)).1 = true
            · have hNs := hNg.2.2 hN
              refine r_topi (nI (aNum n tx (q + 1)).2.2) (if_pos hN) ?_
              refine r_istore_n (ls2 := [some (.ref (a 0)), some (.int (nx n tx p)), some (.ref (X.2.2.2 (10 + 0))), some (.int (nI ((aNum n tx (q + 1)).2.2)))]) 76 rfl d_Scr_readClause_75 (by decide) rfl rfl ?_
              refine r_iload_n rfl 77 rfl d_Scr_readClause_76 ?_
              refine r_if_geN_t ((aNum n tx (q + 1)).2.2) (Nat.lt_trans aNum_v (by decide)) 82 rfl d_Scr_readClause_77 (Nat.zero_le _) ?_
              refine r_iload_n rfl 83 rfl d_Scr_readClause_82 ?_
              refine r_bipush (nI 98) rfl 85 rfl d_Scr_readClause_83 ?_
              refine r_icmp_ne_t 98 rfl d_Scr_readClause_85 (by rw [h8]; decide) ?_
              refine r_aload_n rfl 99 rfl d_Scr_readClause_98 ?_
              refine r_bipush (nI 32) rfl 101 rfl d_Scr_readClause_99 ?_
              refine r_callVA1 (st2 := [.int (bI (aIs n tx 32 ((aNum n tx (q + 1)).2.1)))]) (w2 := SV X a gg (a 3) T n kn (tkP n tx 32 ((aNum n tx (q + 1)).2.1)) k C b c s w) lk_Scr_take ln_Scr_54 (c_Scr_take X a gg T n kn ((aNum n tx (q + 1)).2.1) k C b c s w tx hn hT hct 32 (by omega) (by decide)) (by first | decide | omega) rfl rfl (Nat.le_of_ble_eq_true rfl) (Nat.le_of_ble_eq_true rfl) (Nat.le_of_ble_eq_true rfl) 0 rfl rfl rfl rfl 104 rfl d_Scr_readClause_101 ?_
              refine r_if_eqB 107 115 rfl rfl d_Scr_readClause_104 (fun h104 => ?_) (fun h104 => ?_)
              · rw [tkP_f h104]
                refine r_iconst (nI 0) rfl 116 rfl d_Scr_readClause_115 ?_
                exact r_zret rfl (rfl) (Nat.zero_le _) (Nat.zero_le _) d_Scr_readClause_116 (by rw [← hQ]; exact RC_f hcl (aCk_f3 hA3 hN (by decide) h104) (show k + p ≤ k + (aNum n tx (q + 1)).2.1 by omega))
              · rw [tkP_t h104]
                have hlt104 := (aIs_t h104 (by omega)).1
                refine r_aload_n rfl 108 rfl d_Scr_readClause_107 ?_
                refine r_iconst (nI 0) rfl 109 rfl d_Scr_readClause_108 ?_
                refine r_callVAQ (st2 := []) (w2 := []) lk_Scr_readCondition ln_Scr_82 ((c_Scr_readCondition X a gg T n kn (((aNum n tx (q + 1)).2.1) + 1) k C b c s w tx hn hT hct (aF n tx 4) 4 12 (by decide) (fun D p k c h1 h2 h3 => c_Scr_readFactor X a gg T n kn C b s w tx hn hT hct 4 D p k c h1 h2 h3) (fun p hp => aF_g (by decide) hp) 0 (by omega) (by omega) rfl).mono (fun v w2 hq => RQ_same (r2 := aEx n tx (((aNum n tx (q + 1)).2.1) + 1)) (cC_row hn (by decide) (by omega)) hq)) (by first | decide | omega) rfl rfl (Nat.le_of_ble_eq_true rfl) (Nat.le_of_ble_eq_true rfl) (Nat.le_of_ble_eq_true rfl) 0 rfl rfl 112 rfl d_Scr_readClause_109 (fun vv ww hq2 => ?_)
                obtain ⟨rfl, k10, c10, rfl, hk10, hc10⟩ := hq2
                refine ⟨rfl, ?_⟩
                show Runs X 14 M_Scr_readClause 0 0 Q 112 [some (.ref (a 0)), some (.int (nx n tx p)), some (.ref (X.2.2.2 (10 + 0))), some (.int (nI ((aNum n tx (q + 1)).2.2)))] [.int (bI ((aEx n tx (((aNum n tx (q + 1)).2.1) + 1)).1))] 0 0 (SV X a gg (a 3) T n kn ((aEx n tx (((aNum n tx (q + 1)).2.1) + 1)).2.1) k10 C b c10 s w)
                refine r_if_neB 115 117 rfl rfl d_Scr_readClause_112 (fun h112 => ?_) (fun h112 => ?_)
                · obtain ⟨rfl, rfl⟩ := hc10 h112
                  have hG1 := aEx_g (n := n) (p := (aNum n tx (q + 1)).2.1 + 1) (tx := tx) (by omega)
                  unfold aG at hG1
                  refine r_aload_n rfl 118 rfl d_Scr_readClause_117 ?_
                  refine r_getf (v := .ref (a 3)) gf_Scr_26 0 rfl rfl 121 rfl d_Scr_readClause_118 ?_
                  refine r_iload_n rfl 122 rfl d_Scr_readClause_121 ?_
                  refine r_bipush (nI 102) rfl 124 rfl d_Scr_readClause_122 ?_
                  refine r_icmp_ne_f 127 rfl 131 rfl d_Scr_readClause_124 (h8) ?_
                  refine r_iload_n rfl 128 rfl d_Scr_readClause_127 ?_
                  refine r_goto 133 rfl d_Scr_readClause_128 ?_
                  refine r_callV1 (st2 := []) (w2 := SV X a gg (a 3) T n kn ((aEx n tx (((aNum n tx (q + 1)).2.1) + 1)).2.1) (k + (aEx n tx (((aNum n tx (q + 1)).2.1) + 1)).2.2.length) (C + 1) b (putS c k (aEx n tx (((aNum n tx (q + 1)).2.1) + 1)).2.2) (upd s C (nI (k + (aEx n tx (((aNum n tx (q + 1)).2.1) + 1)).2.2.length))) (upd w C (nI ((aNum n tx (q + 1)).2.2)))) lk_Exc_endClause ln_Scr_85 (c_Exc_endClause X (pl [3, 4, 5, 6] a) (nE (k + (aEx n tx (((aNum n tx (q + 1)).2.1) + 1)).2.2.length) C b) (sE (putS c k (aEx n tx (((aNum n tx (q + 1)).2.1) + 1)).2.2) s w) (fun _ _ => 0) (nI ((aNum n tx (q + 1)).2.2)) (show C < 10 by omega)) (by first | decide | omega) rfl rfl (Nat.le_of_ble_eq_true rfl) (Nat.le_of_ble_eq_true rfl) (Nat.le_of_ble_eq_true rfl) [3, 4, 5, 6] rfl rfl 0 rfl rfl rfl rfl rfl 136 rfl d_Scr_readClause_133 ?_
                  refine r_iconst (nI 1) rfl 137 rfl d_Scr_readClause_136 ?_
                  exact r_zret rfl (rfl) (Nat.zero_le _) (Nat.zero_le _) d_Scr_readClause_137 (by rw [← hQ]; exact RC_t hcl ((aCk_e hA3 hN (by decide) h104).trans (by rw [h112])) (show k + (aEx n tx ((aNum n tx (q + 1)).2.1 + 1)).2.2.length + p ≤ k + (aEx n tx ((aNum n tx (q + 1)).2.1 + 1)).2.1 by omega) ⟨rfl, rfl, rfl, rfl, rfl, rfl⟩)
                · have hG1 := aEx_g (n := n) (p := (aNum n tx (q + 1)).2.1 + 1) (tx := tx) (by omega)
                  unfold aG at hG1
                  refine r_iconst (nI 0) rfl 116 rfl d_Scr_readClause_115 ?_
                  exact r_zret rfl (rfl) (Nat.zero_le _) (Nat.zero_le _) d_Scr_readClause_116 (by rw [← hQ]; exact RC_f hcl ((aCk_e hA3 hN (by decide) h104).trans (by rw [h112])) (show k10 + p ≤ k + (aEx n tx ((aNum n tx (q + 1)).2.1 + 1)).2.1 by omega))
            · refine r_topi (-1) (if_neg hN) ?_
              refine r_istore_n (ls2 := [some (.ref (a 0)), some (.int (nx n tx p)), some (.ref (X.2.2.2 (10 + 0))), some (.int (-1))]) 76 rfl d_Scr_readClause_75 (by decide) rfl rfl ?_
              refine r_iload_n rfl 77 rfl d_Scr_readClause_76 ?_
              refine r_if_ge_f 80 rfl 82 rfl d_Scr_readClause_77 (by decide) ?_
              refine r_iconst (nI 0) rfl 81 rfl d_Scr_readClause_80 ?_
              exact r_zret rfl (rfl) (Nat.zero_le _) (Nat.zero_le _) d_Scr_readClause_81 (by rw [← hQ]; exact RC_f hcl (aCk_f2 hA3 hN) (show k + p ≤ k + (aNum n tx (q + 1)).2.1 by omega))
          · rw [tkP_f h66]
            refine r_iconst (nI 0) rfl 70 rfl d_Scr_readClause_69 ?_
            exact r_zret rfl (rfl) (Nat.zero_le _) (Nat.zero_le _) d_Scr_readClause_70 (by rw [← hQ]; exact RC_f hcl (aCk_f1 (by rw [aAll_w (by decide), hA2]; show (aIs n tx 32 q, tkP n tx 32 q) = (false, q); rw [h66, tkP_f h66])) (show k + p ≤ k + q by omega))
        · refine r_aload_n rfl 41 rfl d_Scr_readClause_40 ?_
          refine r_aload_n rfl 42 rfl d_Scr_readClause_41 ?_
          refine r_iload_n rfl 43 rfl d_Scr_readClause_42 ?_
          refine r_callVs1 (st2 := [.int (chS 0 j), .ref (a 0)]) 0 (by decide) rfl lk_JStr_charAt ln_Scr_73 (c_JStr_charAt X 0 (by decide) j (by omega) (by omega)) (by first | decide | omega) rfl rfl (Nat.le_of_ble_eq_true rfl) (Nat.le_of_ble_eq_true rfl) (Nat.le_of_ble_eq_true rfl) rfl 46 rfl d_Scr_readClause_43 ?_
          have hch := aLit ⟨0, by decide⟩ ⟨j, by omega⟩ (show j < litL.getD 0 0 by omega)
          simp only at hch
          refine r_topi (nI ((litC 0).getD j 0)) (hch.1) ?_
          refine r_callVA1 (st2 := [.int (bI (aIs n tx ((litC 0).getD j 0) q))]) (w2 := SV X a gg (a 3) T n kn (tkP n tx ((litC 0).getD j 0) q) k C b c s w) lk_Scr_take ln_Scr_54 (c_Scr_take X a gg T n kn q k C b c s w tx hn hT hct ((litC 0).getD j 0) (by omega) (hch.2)) (by first | decide | omega) rfl rfl (Nat.le_of_ble_eq_true rfl) (Nat.le_of_ble_eq_true rfl) (Nat.le_of_ble_eq_true rfl) 0 rfl rfl rfl rfl 49 rfl d_Scr_readClause_46 ?_
          refine r_if_neB 52 54 rfl rfl d_Scr_readClause_49 (fun h49 => ?_) (fun h49 => ?_)
          · rw [tkP_t h49]
            have hlt49 := (aIs_t h49 (by omega)).1
            refine r_iinc (ls2 := [some (.ref (a 0)), some (.int (nx n tx p)), some (.ref (X.2.2.2 (10 + 0))), some (.int (nI (j + 1)))]) (nI (j + 1)) rfl (nI_1 _) 57 rfl d_Scr_readClause_54 (by decide) rfl rfl ?_
            refine r_goto 32 rfl d_Scr_readClause_57 ?_
            have hcl : clQ n tx p 0 := cl_0 hp hct h8
            have hl4 : litL.getD 0 0 = 4 := rfl
            have hl5 : (litC 0).length = 4 := by decide +kernel
            exact ih6 (j + 1) (q + 1) (by omega) (by rw [← hr, aAll_s (k := j) (by omega), if_pos h49]) (by omega) (by omega) (by omega)
          · rw [tkP_f h49]
            refine r_iconst (nI 0) rfl 53 rfl d_Scr_readClause_52 ?_
            exact r_zret rfl (rfl) (Nat.zero_le _) (Nat.zero_le _) d_Scr_readClause_53 (by rw [← hQ]; exact RC_f hcl (aCk_f1 (by rw [aAll_w (by decide), show aAll n tx (litC 0) p = (false, q) from by rw [← hr, aAll_s (k := j) (by omega), if_neg (by rw [h49]; decide)]]; rfl)) (show k + p ≤ k + q by omega))
    exact L32_5 _ 0 p (Nat.zero_le _) (rfl) (hp) (Nat.le_refl _) (Nat.lt_succ_self _)
theorem c_Scr_exchangeAtS (X : Xn) (a : Nat → Nat) (gg : Nat → Option Nat) (T : Nat → Int32) (n kn p k C b : Nat) (c s w : Nat → Int32) (m : Nat) (e : Nat) (he : e < 6) (hg : gg e = some (a 3)) : Does X 1 M_Scr_exchangeAt [.ref (a 0), .int (nI e)] (SV X a gg m T n kn p k C b c s w) 0 0 (fun (vv : Option Value) (ww : va_W) => vv = some (.ref (a 3)) ∧ ww = SV X a gg m T n kn p k C b c s w) := by
  generalize hQ : (fun (vv : Option Value) (ww : va_W) => vv = some (.ref (a 3)) ∧ ww = SV X a gg m T n kn p k C b c s w) = Q
  refine Does.go rfl (Nat.le_of_ble_eq_true rfl) [some (.ref (a 0)), some (.int (nI e)), none] 1 rfl ?_
  refine r_iload_n rfl 1 rfl d_Scr_exchangeAt_0 ?_
  refine r_if_ltN_f e (by omega) 4 rfl 22 rfl d_Scr_exchangeAt_1 (Nat.zero_le _) ?_
  refine r_iload_n rfl 5 rfl d_Scr_exchangeAt_4 ?_
  refine r_aload_n rfl 6 rfl d_Scr_exchangeAt_5 ?_
  refine r_getf (v := .ref (a 2)) gf_Scr_17 0 rfl rfl 9 rfl d_Scr_exchangeAt_6 ?_
  refine r_alenE 2 rfl 10 rfl d_Scr_exchangeAt_9 ?_
  refine r_icmp_geN_f e 6 (by omega) (by omega) 13 rfl 22 rfl d_Scr_exchangeAt_10 (by omega) ?_
  refine r_aload_n rfl 14 rfl d_Scr_exchangeAt_13 ?_
  refine r_getf (v := .ref (a 2)) gf_Scr_17 0 rfl rfl 17 rfl d_Scr_exchangeAt_14 ?_
  refine r_iload_n rfl 18 rfl d_Scr_exchangeAt_17 ?_
  refine r_aaldE 2 rfl e (a 3) rfl (by omega) (by omega) (hg) 19 rfl d_Scr_exchangeAt_18 ?_
  refine r_goto 23 rfl d_Scr_exchangeAt_19 ?_
  refine r_astore_n (ls2 := [some (.ref (a 0)), some (.int (nI e)), some (.ref (a 3))]) 24 rfl d_Scr_exchangeAt_23 (by decide) rfl rfl ?_
  refine r_aload_n rfl 25 rfl d_Scr_exchangeAt_24 ?_
  refine r_ifnonnull 35 rfl d_Scr_exchangeAt_25 ?_
  refine r_aload_n rfl 36 rfl d_Scr_exchangeAt_35 ?_
  exact r_aret rfl (Or.inr ⟨_, rfl⟩) (Nat.zero_le _) (Nat.zero_le _) d_Scr_exchangeAt_36 (by rw [← hQ]; exact ⟨rfl, rfl⟩)
theorem c_Scr_close (X : Xn) (a : Nat → Nat) (gg : Nat → Option Nat) (T : Nat → Int32) (n kn p k C b : Nat) (c s w : Nat → Int32) (tx : Nat → Nat) (hn : n ≤ 100) (hT : ∀ j, j < n → T j = nI (tx j)) (hct : ∀ j, tx j < 128) (m : Nat)  (hkn : kn < 6) (hg : gg kn = some (a 3)) : Does X 15 M_Scr_close [.ref (a 0)] (SV X a gg m T n kn p k C b c s w) 0 0 (RX X a gg T n kn tx) := by
  generalize hQ : (RX X a gg T n kn tx) = Q
  refine Does.go rfl (Nat.le_of_ble_eq_true rfl) [some (.ref (a 0)), none, none] 2 rfl ?_
  refine r_aload_n rfl 1 rfl d_Scr_close_0 ?_
  refine r_aload_n rfl 2 rfl d_Scr_close_1 ?_
  refine r_aload_n rfl 3 rfl d_Scr_close_2 ?_
  refine r_getf (v := .int (nI kn)) gf_Scr_37 0 rfl rfl 6 rfl d_Scr_close_3 ?_
  refine r_callVA1 (st2 := [.ref (a 3), .ref (a 0)]) (w2 := SV X a gg m T n kn p k C b c s w) lk_Scr_exchangeAt ln_Scr_40 (c_Scr_exchangeAtS X a gg T n kn p k C b c s w m kn hkn hg) (by first | decide | omega) rfl rfl (Nat.le_of_ble_eq_true rfl) (Nat.le_of_ble_eq_true rfl) (Nat.le_of_ble_eq_true rfl) 0 rfl rfl rfl rfl 9 rfl d_Scr_close_6 ?_
  refine r_putf (w2 := SV X a gg (a 3) T n kn p k C b c s w) pf_Scr_26 0 rfl (rfl) rfl (Nat.le_of_ble_eq_true rfl) rfl 12 rfl d_Scr_close_9 ?_
  refine r_aload_n rfl 13 rfl d_Scr_close_12 ?_
  refine r_getf (v := .ref (a 3)) gf_Scr_26 0 rfl rfl 16 rfl d_Scr_close_13 ?_
  refine r_callV1 (st2 := []) (w2 := SV X a gg (a 3) T n kn p 0 0 5 c s w) lk_Exc_clear ln_Scr_44 (c_Exc_clear X (pl [3, 4, 5, 6] a) (nE k C b) (sE c s w) (fun _ _ => 0)  ) (by first | decide | omega) rfl rfl (Nat.le_of_ble_eq_true rfl) (Nat.le_of_ble_eq_true rfl) (Nat.le_of_ble_eq_true rfl) [3, 4, 5, 6] rfl rfl 0 rfl rfl rfl rfl rfl 19 rfl d_Scr_close_16 ?_
  refine r_aload_n rfl 20 rfl d_Scr_close_19 ?_
  refine r_iconst (nI 0) rfl 21 rfl d_Scr_close_20 ?_
  refine r_putf (w2 := SV X a gg (a 3) T n kn 0 0 0 5 c s w) pf_Scr_47 0 rfl (rfl) rfl (Nat.le_of_ble_eq_true rfl) rfl 24 rfl d_Scr_close_21 ?_
  refine r_aload_n rfl 25 rfl d_Scr_close_24 ?_
  refine r_callVAQ (st2 := []) (w2 := []) lk_Scr_readClause ln_Scr_50 (c_Scr_readClause X a gg T n kn 0 0 0 5 c s w tx hn hT hct (by omega) (by omega) (by omega)) (by first | decide | omega) rfl rfl (Nat.le_of_ble_eq_true rfl) (Nat.le_of_ble_eq_true rfl) (Nat.le_of_ble_eq_true rfl) 0 rfl rfl 28 rfl d_Scr_close_25 (fun vv ww hq2 => ?_)
  obtain ⟨rfl, k11, C11, b11, c11, s11, w11, rfl, hk11, hc11⟩ := hq2
  have hg11 := aCl_g (n := n) (tx := tx) (p := 0) (by omega)
  refine ⟨rfl, ?_⟩
  show Runs X 15 M_Scr_close 0 0 Q 28 [some (.ref (a 0)), none, none] [.int (bI ((aCl n tx 0).1))] 0 0 (SV X a gg (a 3) T n kn ((aCl n tx 0).2.1) k11 C11 b11 c11 s11 w11)
  refine r_istore_n (ls2 := [some (.ref (a 0)), some (.int (bI ((aCl n tx 0).1))), none]) 29 rfl d_Scr_close_28 (by decide) rfl rfl ?_
  refine r_iconst (nI 1) rfl 30 rfl d_Scr_close_29 ?_
  refine r_istore_n (ls2 := [some (.ref (a 0)), some (.int (bI ((aCl n tx 0).1))), some (.int (nI 1))]) 31 rfl d_Scr_close_30 (by decide) rfl rfl ?_
  have L31_1 : ∀ (f : Nat) (i : Nat) (wh : Bool) (q : Nat) (cs : List (Nat × Nat × List Nat)) (k1 : Nat) (C1 : Nat) (b1 : Nat) (c1 : Nat → Int32) (s1 : Nat → Int32) (w1 : Nat → Int32), (1 ≤ i) → (i ≤ 10) → (q ≤ n) → (k1 ≤ q) → (wh = true → exR n tx = if q = n then (true, q, cs) else if 10 - i = 0 then (false, q, cs) else if aIs n tx 59 q = true then aXs n tx (10 - i) (q + 1) cs else (false, q, cs)) → (wh = false → (exR n tx).1 = false ∧ (exR n tx).2.1 = q) → (wh = true → CI cs k1 C1 b1 c1 s1 w1) → (wh = true → C1 ≤ i) → 10 - i < f → Runs X 15 M_Scr_close 0 0 Q 31 [some (.ref (a 0)), some (.int (bI wh)), some (.int (nI i))] [] 0 0 (SV X a gg (a 3) T n kn q k1 C1 b1 c1 s1 w1) := by
    intro f
    induction f with
    | zero => intro i wh q cs k1 C1 b1 c1 s1 w1 hi1 hi hq hk1 hr1 hr2 hI hC1 hmu; exact absurd hmu (Nat.not_lt_zero _)
    | succ f ih2 =>
      intro i wh q cs k1 C1 b1 c1 s1 w1 hi1 hi hq hk1 hr1 hr2 hI hC1 hmu
      refine r_iload_n rfl 32 rfl d_Scr_close_31 ?_
      refine r_bipush (nI 10) rfl 34 rfl d_Scr_close_32 ?_
      refine r_icmp_geN i 10 (by omega) (by omega) 37 80 rfl rfl d_Scr_close_34 (fun h34 => ?_) (fun h34 => ?_)
      · refine r_iload_n rfl 81 rfl d_Scr_close_80 ?_
        refine r_if_eqB 84 99 rfl rfl d_Scr_close_81 (fun h81 => ?_) (fun h81 => ?_)
        · refine r_iconst (nI 0) rfl 100 rfl d_Scr_close_99 ?_
          refine r_istore_n (ls2 := [some (.ref (a 0)), some (.int (nI 0)), some (.int (nI i))]) 101 rfl d_Scr_close_100 (by decide) rfl rfl ?_
          refine r_aload_n rfl 102 rfl d_Scr_close_101 ?_
          refine r_iconst (nI 0) rfl 103 rfl d_Scr_close_102 ?_
          refine r_putf (w2 := SV X a gg (a 3) T 0 kn q k1 C1 b1 c1 s1 w1) pf_Scr_29 0 rfl (rfl) rfl (Nat.le_of_ble_eq_true rfl) rfl 106 rfl d_Scr_close_103 ?_
          refine r_iload_n rfl 107 rfl d_Scr_close_106 ?_
          refine r_if_neN_f 0 (by omega) 110 rfl 115 rfl d_Scr_close_107 (rfl) ?_
          refine r_aload_n rfl 111 rfl d_Scr_close_110 ?_
          refine r_getf (v := .int (nI q)) gf_Scr_47 0 rfl rfl 114 rfl d_Scr_close_111 ?_
          exact r_iret rfl (Nat.zero_le _) (Nat.zero_le _) d_Scr_close_114 (by rw [← hQ]; exact RX_f (hr2 h81).1 (hr2 h81).2 (by omega))
        · refine r_aload_n rfl 85 rfl d_Scr_close_84 ?_
          refine r_getf (v := .int (nI q)) gf_Scr_47 0 rfl rfl 88 rfl d_Scr_close_85 ?_
          refine r_aload_n rfl 89 rfl d_Scr_close_88 ?_
          refine r_getf (v := .int (nI n)) gf_Scr_29 0 rfl rfl 92 rfl d_Scr_close_89 ?_
          refine r_icmp_neN q n (by omega) (by omega) 95 99 rfl rfl d_Scr_close_92 (fun h92 => ?_) (fun h92 => ?_)
          · refine r_iconst (nI 0) rfl 100 rfl d_Scr_close_99 ?_
            refine r_istore_n (ls2 := [some (.ref (a 0)), some (.int (nI 0)), some (.int (nI i))]) 101 rfl d_Scr_close_100 (by decide) rfl rfl ?_
            refine r_aload_n rfl 102 rfl d_Scr_close_101 ?_
            refine r_iconst (nI 0) rfl 103 rfl d_Scr_close_102 ?_
            refine r_putf (w2 := SV X a gg (a 3) T 0 kn q k1 C1 b1 c1 s1 w1) pf_Scr_29 0 rfl (rfl) rfl (Nat.le_of_ble_eq_true rfl) rfl 106 rfl d_Scr_close_103 ?_
            refine r_iload_n rfl 107 rfl d_Scr_close_106 ?_
            refine r_if_neN_f 0 (by omega) 110 rfl 115 rfl d_Scr_close_107 (rfl) ?_
            refine r_aload_n rfl 111 rfl d_Scr_close_110 ?_
            refine r_getf (v := .int (nI q)) gf_Scr_47 0 rfl rfl 114 rfl d_Scr_close_111 ?_
            exact r_iret rfl (Nat.zero_le _) (Nat.zero_le _) d_Scr_close_114 (by rw [← hQ]; exact RX_f (by rw [hr1 h81, if_neg h92, if_pos (by omega)]) (by rw [hr1 h81, if_neg h92, if_pos (by omega)]) (by omega))
          · refine r_iconst (nI 1) rfl 96 rfl d_Scr_close_95 ?_
            refine r_goto 100 rfl d_Scr_close_96 ?_
            refine r_istore_n (ls2 := [some (.ref (a 0)), some (.int (nI 1)), some (.int (nI i))]) 101 rfl d_Scr_close_100 (by decide) rfl rfl ?_
            refine r_aload_n rfl 102 rfl d_Scr_close_101 ?_
            refine r_iconst (nI 0) rfl 103 rfl d_Scr_close_102 ?_
            refine r_putf (w2 := SV X a gg (a 3) T 0 kn q k1 C1 b1 c1 s1 w1) pf_Scr_29 0 rfl (rfl) rfl (Nat.le_of_ble_eq_true rfl) rfl 106 rfl d_Scr_close_103 ?_
            refine r_iload_n rfl 107 rfl d_Scr_close_106 ?_
            refine r_if_neN_t 1 (by omega) 115 rfl d_Scr_close_107 (by decide) ?_
            refine r_aload_n rfl 116 rfl d_Scr_close_115 ?_
            refine r_dup rfl 117 rfl d_Scr_close_116 ?_
            refine r_getf (v := .int (nI kn)) gf_Scr_37 0 rfl rfl 120 rfl d_Scr_close_117 ?_
            refine r_iconst (nI 1) rfl 121 rfl d_Scr_close_120 ?_
            refine r_iadd 122 rfl d_Scr_close_121 ?_
            refine r_topi (nI (kn + 1)) (nI_add _ _) ?_
            refine r_putf (w2 := SV X a gg (a 3) T 0 (kn + 1) q k1 C1 b1 c1 s1 w1) pf_Scr_37 0 rfl (rfl) rfl (Nat.le_of_ble_eq_true rfl) rfl 125 rfl d_Scr_close_122 ?_
            refine r_iconst ((-1)) rfl 126 rfl d_Scr_close_125 ?_
            exact r_iret rfl (Nat.zero_le _) (Nat.zero_le _) d_Scr_close_126 (by rw [← hQ]; exact RX_t (cs := cs) (by rw [hr1 h81, if_pos h92]) (by omega) (hI h81))
      · refine r_iload_n rfl 38 rfl d_Scr_close_37 ?_
        refine r_if_eqB 41 80 rfl rfl d_Scr_close_38 (fun h38 => ?_) (fun h38 => ?_)
        · refine r_iload_n rfl 81 rfl d_Scr_close_80 ?_
          refine r_if_eqB_t 99 rfl d_Scr_close_81 (h38) ?_
          refine r_iconst (nI 0) rfl 100 rfl d_Scr_close_99 ?_
          refine r_istore_n (ls2 := [some (.ref (a 0)), some (.int (nI 0)), some (.int (nI i))]) 101 rfl d_Scr_close_100 (by decide) rfl rfl ?_
          refine r_aload_n rfl 102 rfl d_Scr_close_101 ?_
          refine r_iconst (nI 0) rfl 103 rfl d_Scr_close_102 ?_
          refine r_putf (w2 := SV X a gg (a 3) T 0 kn q k1 C1 b1 c1 s1 w1) pf_Scr_29 0 rfl (rfl) rfl (Nat.le_of_ble_eq_true rfl) rfl 106 rfl d_Scr_close_103 ?_
          refine r_iload_n rfl 107 rfl d_Scr_close_106 ?_
          refine r_if_neN_f 0 (by omega) 110 rfl 115 rfl d_Scr_close_107 (rfl) ?_
          refine r_aload_n rfl 111 rfl d_Scr_close_110 ?_
          refine r_getf (v := .int (nI q)) gf_Scr_47 0 rfl rfl 114 rfl d_Scr_close_111 ?_
          exact r_iret rfl (Nat.zero_le _) (Nat.zero_le _) d_Scr_close_114 (by rw [← hQ]; exact RX_f (hr2 h38).1 (hr2 h38).2 (by omega))
        · refine r_aload_n rfl 42 rfl d_Scr_close_41 ?_
          refine r_getf (v := .int (nI q)) gf_Scr_47 0 rfl rfl 45 rfl d_Scr_close_42 ?_
          refine r_aload_n rfl 46 rfl d_Scr_close_45 ?_
          refine r_getf (v := .int (nI n)) gf_Scr_29 0 rfl rfl 49 rfl d_Scr_close_46 ?_
          refine r_icmp_geN q n (by omega) (by omega) 52 80 rfl rfl d_Scr_close_49 (fun h49 => ?_) (fun h49 => ?_)
          · refine r_iload_n rfl 81 rfl d_Scr_close_80 ?_
            refine r_if_eqB_f 84 rfl 99 rfl d_Scr_close_81 (h38) ?_
            refine r_aload_n rfl 85 rfl d_Scr_close_84 ?_
            refine r_getf (v := .int (nI q)) gf_Scr_47 0 rfl rfl 88 rfl d_Scr_close_85 ?_
            refine r_aload_n rfl 89 rfl d_Scr_close_88 ?_
            refine r_getf (v := .int (nI n)) gf_Scr_29 0 rfl rfl 92 rfl d_Scr_close_89 ?_
            refine r_icmp_neN q n (by omega) (by omega) 95 99 rfl rfl d_Scr_close_92 (fun h92 => ?_) (fun h92 => ?_)
            · refine r_iconst (nI 0) rfl 100 rfl d_Scr_close_99 ?_
              refine r_istore_n (ls2 := [some (.ref (a 0)), some (.int (nI 0)), some (.int (nI i))]) 101 rfl d_Scr_close_100 (by decide) rfl rfl ?_
              refine r_aload_n rfl 102 rfl d_Scr_close_101 ?_
              refine r_iconst (nI 0) rfl 103 rfl d_Scr_close_102 ?_
              refine r_putf (w2 := SV X a gg (a 3) T 0 kn q k1 C1 b1 c1 s1 w1) pf_Scr_29 0 rfl (rfl) rfl (Nat.le_of_ble_eq_true rfl) rfl 106 rfl d_Scr_close_103 ?_
              refine r_iload_n rfl 107 rfl d_Scr_close_106 ?_
              refine r_if_neN_f 0 (by omega) 110 rfl 115 rfl d_Scr_close_107 (rfl) ?_
              refine r_aload_n rfl 111 rfl d_Scr_close_110 ?_
              refine r_getf (v := .int (nI q)) gf_Scr_47 0 rfl rfl 114 rfl d_Scr_close_111 ?_
              exact r_iret rfl (Nat.zero_le _) (Nat.zero_le _) d_Scr_close_114 (by rw [← hQ]; exact RX_f (by rw [hr1 h38, if_neg h92, if_pos (by omega)]) (by rw [hr1 h38, if_neg h92, if_pos (by omega)]) (by omega))
            · refine r_iconst (nI 1) rfl 96 rfl d_Scr_close_95 ?_
              refine r_goto 100 rfl d_Scr_close_96 ?_
              refine r_istore_n (ls2 := [some (.ref (a 0)), some (.int (nI 1)), some (.int (nI i))]) 101 rfl d_Scr_close_100 (by decide) rfl rfl ?_
              refine r_aload_n rfl 102 rfl d_Scr_close_101 ?_
              refine r_iconst (nI 0) rfl 103 rfl d_Scr_close_102 ?_
              refine r_putf (w2 := SV X a gg (a 3) T 0 kn q k1 C1 b1 c1 s1 w1) pf_Scr_29 0 rfl (rfl) rfl (Nat.le_of_ble_eq_true rfl) rfl 106 rfl d_Scr_close_103 ?_
              refine r_iload_n rfl 107 rfl d_Scr_close_106 ?_
              refine r_if_neN_t 1 (by omega) 115 rfl d_Scr_close_107 (by decide) ?_
              refine r_aload_n rfl 116 rfl d_Scr_close_115 ?_
              refine r_dup rfl 117 rfl d_Scr_close_116 ?_
              refine r_getf (v := .int (nI kn)) gf_Scr_37 0 rfl rfl 120 rfl d_Scr_close_117 ?_
              refine r_iconst (nI 1) rfl 121 rfl d_Scr_close_120 ?_
              refine r_iadd 122 rfl d_Scr_close_121 ?_
              refine r_topi (nI (kn + 1)) (nI_add _ _) ?_
              refine r_putf (w2 := SV X a gg (a 3) T 0 (kn + 1) q k1 C1 b1 c1 s1 w1) pf_Scr_37 0 rfl (rfl) rfl (Nat.le_of_ble_eq_true rfl) rfl 125 rfl d_Scr_close_122 ?_
              refine r_iconst ((-1)) rfl 126 rfl d_Scr_close_125 ?_
              exact r_iret rfl (Nat.zero_le _) (Nat.zero_le _) d_Scr_close_126 (by rw [← hQ]; exact RX_t (cs := cs) (by rw [hr1 h38, if_pos h92]) (by omega) (hI h38))
          · refine r_aload_n rfl 53 rfl d_Scr_close_52 ?_
            refine r_bipush (nI 59) rfl 55 rfl d_Scr_close_53 ?_
            refine r_callVA1 (st2 := [.int (bI (aIs n tx 59 q))]) (w2 := SV X a gg (a 3) T n kn (tkP n tx 59 q) k1 C1 b1 c1 s1 w1) lk_Scr_take ln_Scr_54 (c_Scr_take X a gg T n kn q k1 C1 b1 c1 s1 w1 tx hn hT hct 59 (by omega) (by decide)) (by first | decide | omega) rfl rfl (Nat.le_of_ble_eq_true rfl) (Nat.le_of_ble_eq_true rfl) (Nat.le_of_ble_eq_true rfl) 0 rfl rfl rfl rfl 58 rfl d_Scr_close_55 ?_
            refine r_if_eqB 61 72 rfl rfl d_Scr_close_58 (fun h58 => ?_) (fun h58 => ?_)
            · rw [tkP_f h58]
              refine r_iconst (nI 0) rfl 73 rfl d_Scr_close_72 ?_
              refine r_istore_n (ls2 := [some (.ref (a 0)), some (.int (nI 0)), some (.int (nI i))]) 74 rfl d_Scr_close_73 (by decide) rfl rfl ?_
              refine r_iinc (ls2 := [some (.ref (a 0)), some (.int (nI 0)), some (.int (nI (i + 1)))]) (nI (i + 1)) rfl (nI_1 _) 77 rfl d_Scr_close_74 (by decide) rfl rfl ?_
              refine r_goto 31 rfl d_Scr_close_77 ?_
              refine Runs.cast (ih2 (i + 1) false q cs k1 C1 b1 c1 s1 w1 (by omega) (by omega) (hq) (hk1) (fun z => by cases z) (fun _ => by have hx := hr1 h38; rw [if_neg (show ¬ q = n by omega), if_neg (show ¬ 10 - i = 0 by omega), if_neg (by rw [h58]; decide)] at hx; rw [hx]; exact ⟨rfl, rfl⟩) (fun z => by cases z) (fun z => by cases z) (by omega)) (rfl) rfl (rfl)
            · rw [tkP_t h58]
              have hlt58 := (aIs_t h58 (by omega)).1
              have hC2 := hC1 h38
              refine r_aload_n rfl 62 rfl d_Scr_close_61 ?_
              refine r_callVAQ (st2 := []) (w2 := []) lk_Scr_readClause ln_Scr_50 (c_Scr_readClause X a gg T n kn (q + 1) k1 C1 b1 c1 s1 w1 tx hn hT hct (by omega) (by omega) (by omega)) (by first | decide | omega) rfl rfl (Nat.le_of_ble_eq_true rfl) (Nat.le_of_ble_eq_true rfl) (Nat.le_of_ble_eq_true rfl) 0 rfl rfl 65 rfl d_Scr_close_62 (fun vv ww hq2 => ?_)
              obtain ⟨rfl, k12, C12, b12, c12, s12, w12, rfl, hk12, hc12⟩ := hq2
              have hg12 := aCl_g (n := n) (tx := tx) (p := (q + 1)) (by omega)
              refine ⟨rfl, ?_⟩
              show Runs X 15 M_Scr_close 0 0 Q 65 [some (.ref (a 0)), some (.int (bI wh)), some (.int (nI i))] [.int (bI ((aCl n tx (q + 1)).1))] 0 0 (SV X a gg (a 3) T n kn ((aCl n tx (q + 1)).2.1) k12 C12 b12 c12 s12 w12)
              refine r_if_eqB 68 72 rfl rfl d_Scr_close_65 (fun h65 => ?_) (fun h65 => ?_)
              · refine r_iconst (nI 0) rfl 73 rfl d_Scr_close_72 ?_
                refine r_istore_n (ls2 := [some (.ref (a 0)), some (.int (nI 0)), some (.int (nI i))]) 74 rfl d_Scr_close_73 (by decide) rfl rfl ?_
                refine r_iinc (ls2 := [some (.ref (a 0)), some (.int (nI 0)), some (.int (nI (i + 1)))]) (nI (i + 1)) rfl (nI_1 _) 77 rfl d_Scr_close_74 (by decide) rfl rfl ?_
                refine r_goto 31 rfl d_Scr_close_77 ?_
                refine Runs.cast (ih2 (i + 1) false ((aCl n tx (q + 1)).2.1) cs k12 C12 b12 c12 s12 w12 (by omega) (by omega) (hg12.2) (by omega) (fun z => by cases z) (fun _ => by have hx := hr1 h38; rw [if_neg (show ¬ q = n by omega), if_neg (show ¬ 10 - i = 0 by omega), if_pos h58, show 10 - i = (10 - (i + 1)) + 1 by omega, aXs_no h65] at hx; rw [hx]; exact ⟨rfl, rfl⟩) (fun z => by cases z) (fun z => by cases z) (by omega)) (rfl) rfl (rfl)
              · refine r_iconst (nI 1) rfl 69 rfl d_Scr_close_68 ?_
                refine r_goto 73 rfl d_Scr_close_69 ?_
                refine r_istore_n (ls2 := [some (.ref (a 0)), some (.int (nI 1)), some (.int (nI i))]) 74 rfl d_Scr_close_73 (by decide) rfl rfl ?_
                refine r_iinc (ls2 := [some (.ref (a 0)), some (.int (nI 1)), some (.int (nI (i + 1)))]) (nI (i + 1)) rfl (nI_1 _) 77 rfl d_Scr_close_74 (by decide) rfl rfl ?_
                refine r_goto 31 rfl d_Scr_close_77 ?_
                refine Runs.cast (ih2 (i + 1) true ((aCl n tx (q + 1)).2.1) (cs ++ [(aKd n tx (q + 1), (aCl n tx (q + 1)).2.2.1, (aCl n tx (q + 1)).2.2.2)]) k12 C12 b12 c12 s12 w12 (by omega) (by omega) (hg12.2) (by omega) (fun _ => by have hx := hr1 h38; rw [if_neg (show ¬ q = n by omega), if_neg (show ¬ 10 - i = 0 by omega), if_pos h58, show 10 - i = (10 - (i + 1)) + 1 by omega, aXs_go h65] at hx; exact hx) (fun z => by cases z) (fun _ => CI_s (hI h38) (hc12 h65) (aCl_ok hct h65) (by omega)) (fun _ => by have hz := hc12 h65; have hC2 := hC1 h38; unfold clS at hz; split at hz <;> omega) (by omega)) (rfl) rfl (rfl)
  exact L31_1 _ 1 ((aCl n tx 0).1) ((aCl n tx 0).2.1) ([(aKd n tx 0, (aCl n tx 0).2.2.1, (aCl n tx 0).2.2.2)]) k11 C11 b11 c11 s11 w11 (Nat.le_refl _) (by decide) (hg11.2) (by omega) (fun z => aXs_go (f := 9) (p := 0) (cs := []) z) (fun z => by unfold exR; rw [aXs_no z]; exact ⟨rfl, rfl⟩) (fun z => CI_s (cs := []) (CI_0 c s w) (hc11 z) (aCl_ok hct z) (by omega)) (by intro z; have hz := CI_s (cs := []) (CI_0 c s w) (hc11 z) (aCl_ok hct z) (by omega); exact Nat.le_trans hz.1 (Nat.le_refl 1)) (Nat.lt_succ_self _)
