def M_HB_of : XM := (⟨"HandshakeBinds", "of", "(II)I"⟩, prog_1_method_3_code, 3, (some .int))
theorem d_HB_of_0 : decode M_HB_of.2.1 0 = .ok (.aload_n 0, 1) := by decide +kernel
theorem d_HB_of_1 : decode M_HB_of.2.1 1 = .ok (.iload_n 1, 1) := by decide +kernel
theorem d_HB_of_2 : decode M_HB_of.2.1 2 = .ok (.invokevirtual 60, 3) := by decide +kernel
theorem d_HB_of_5 : decode M_HB_of.2.1 5 = .ok (.ifCond .ne 6, 3) := by decide +kernel
theorem d_HB_of_11 : decode M_HB_of.2.1 11 = .ok (.iload_n 2, 1) := by decide +kernel
theorem d_HB_of_12 : decode M_HB_of.2.1 12 = .ok (.tableswitch 151 0 7 #[48, 60, 72, 87, 99, 112, 124, 139], 48) := by decide +kernel
theorem d_HB_of_60 : decode M_HB_of.2.1 60 = .ok (.aload_n 0, 1) := by decide +kernel
theorem d_HB_of_61 : decode M_HB_of.2.1 61 = .ok (.getfield 12, 3) := by decide +kernel
theorem d_HB_of_64 : decode M_HB_of.2.1 64 = .ok (.getfield 65, 3) := by decide +kernel
theorem d_HB_of_67 : decode M_HB_of.2.1 67 = .ok (.iload_n 1, 1) := by decide +kernel
theorem d_HB_of_68 : decode M_HB_of.2.1 68 = .ok (.invokestatic 69, 3) := by decide +kernel
theorem d_HB_of_71 : decode M_HB_of.2.1 71 = .ok (.ireturn, 1) := by decide +kernel
theorem d_HB_of_72 : decode M_HB_of.2.1 72 = .ok (.aload_n 0, 1) := by decide +kernel
theorem d_HB_of_73 : decode M_HB_of.2.1 73 = .ok (.getfield 12, 3) := by decide +kernel
theorem d_HB_of_76 : decode M_HB_of.2.1 76 = .ok (.getfield 73, 3) := by decide +kernel
theorem gf_HB_73 : GFn "HandshakeBinds" 73 1 2 := ⟨_, _, _, rfl, by decide, i_Mkt, inNW 172 (by decide +kernel) rfl⟩
theorem d_HB_of_79 : decode M_HB_of.2.1 79 = .ok (.iload_n 1, 1) := by decide +kernel
theorem d_HB_of_80 : decode M_HB_of.2.1 80 = .ok (.invokestatic 69, 3) := by decide +kernel
theorem d_HB_of_83 : decode M_HB_of.2.1 83 = .ok (.ireturn, 1) := by decide +kernel
theorem d_HB_of_84 : decode M_HB_of.2.1 84 = .ok (.aload_n 0, 1) := by decide +kernel
theorem d_HB_of_85 : decode M_HB_of.2.1 85 = .ok (.getfield 12, 3) := by decide +kernel
theorem d_HB_of_88 : decode M_HB_of.2.1 88 = .ok (.getfield 49, 3) := by decide +kernel
theorem d_HB_of_91 : decode M_HB_of.2.1 91 = .ok (.getfield 76, 3) := by decide +kernel
theorem d_HB_of_94 : decode M_HB_of.2.1 94 = .ok (.iload_n 1, 1) := by decide +kernel
theorem d_HB_of_95 : decode M_HB_of.2.1 95 = .ok (.invokestatic 69, 3) := by decide +kernel
theorem d_HB_of_98 : decode M_HB_of.2.1 98 = .ok (.ireturn, 1) := by decide +kernel
theorem d_HB_of_99 : decode M_HB_of.2.1 99 = .ok (.aload_n 0, 1) := by decide +kernel
theorem d_HB_of_100 : decode M_HB_of.2.1 100 = .ok (.getfield 12, 3) := by decide +kernel
theorem d_HB_of_103 : decode M_HB_of.2.1 103 = .ok (.getfield 49, 3) := by decide +kernel
theorem d_HB_of_106 : decode M_HB_of.2.1 106 = .ok (.iload_n 1, 1) := by decide +kernel
theorem d_HB_of_107 : decode M_HB_of.2.1 107 = .ok (.invokevirtual 79, 3) := by decide +kernel
theorem ln_HB_79 : Cond.methodLink "HandshakeBinds" 79 M_Led_owesAll.1 ∈ TB := inTB 367 (by decide +kernel) rfl
theorem d_HB_of_110 : decode M_HB_of.2.1 110 = .ok (.ireturn, 1) := by decide +kernel
theorem d_HB_of_111 : decode M_HB_of.2.1 111 = .ok (.aload_n 0, 1) := by decide +kernel
theorem d_HB_of_112 : decode M_HB_of.2.1 112 = .ok (.getfield 12, 3) := by decide +kernel
theorem d_HB_of_115 : decode M_HB_of.2.1 115 = .ok (.getfield 49, 3) := by decide +kernel
theorem d_HB_of_118 : decode M_HB_of.2.1 118 = .ok (.iload_n 1, 1) := by decide +kernel
theorem d_HB_of_119 : decode M_HB_of.2.1 119 = .ok (.iconst 0, 1) := by decide +kernel
theorem d_HB_of_120 : decode M_HB_of.2.1 120 = .ok (.invokevirtual 83, 3) := by decide +kernel
theorem ln_HB_83 : Cond.methodLink "HandshakeBinds" 83 M_Led_owedBy.1 ∈ TB := inTB 376 (by decide +kernel) rfl
theorem d_HB_of_123 : decode M_HB_of.2.1 123 = .ok (.ireturn, 1) := by decide +kernel
theorem d_HB_of_124 : decode M_HB_of.2.1 124 = .ok (.aload_n 0, 1) := by decide +kernel
theorem d_HB_of_125 : decode M_HB_of.2.1 125 = .ok (.getfield 12, 3) := by decide +kernel
theorem d_HB_of_128 : decode M_HB_of.2.1 128 = .ok (.getfield 49, 3) := by decide +kernel
theorem d_HB_of_131 : decode M_HB_of.2.1 131 = .ok (.iload_n 1, 1) := by decide +kernel
theorem d_HB_of_132 : decode M_HB_of.2.1 132 = .ok (.invokevirtual 86, 3) := by decide +kernel
theorem ln_HB_86 : Cond.methodLink "HandshakeBinds" 86 M_Led_balance.1 ∈ TB := inTB 383 (by decide +kernel) rfl
theorem d_HB_of_135 : decode M_HB_of.2.1 135 = .ok (.ireturn, 1) := by decide +kernel
theorem d_HB_of_136 : decode M_HB_of.2.1 136 = .ok (.aload_n 0, 1) := by decide +kernel
theorem d_HB_of_137 : decode M_HB_of.2.1 137 = .ok (.getfield 12, 3) := by decide +kernel
theorem d_HB_of_140 : decode M_HB_of.2.1 140 = .ok (.getfield 49, 3) := by decide +kernel
theorem d_HB_of_143 : decode M_HB_of.2.1 143 = .ok (.iconst 1, 1) := by decide +kernel
theorem d_HB_of_144 : decode M_HB_of.2.1 144 = .ok (.iload_n 1, 1) := by decide +kernel
theorem d_HB_of_145 : decode M_HB_of.2.1 145 = .ok (.ishl, 1) := by decide +kernel
theorem d_HB_of_146 : decode M_HB_of.2.1 146 = .ok (.iconst 0, 1) := by decide +kernel
theorem d_HB_of_147 : decode M_HB_of.2.1 147 = .ok (.invokevirtual 89, 3) := by decide +kernel
theorem ln_HB_89 : Cond.methodLink "HandshakeBinds" 89 M_Led_failing.1 ∈ TB := inTB 389 (by decide +kernel) rfl
theorem d_HB_of_150 : decode M_HB_of.2.1 150 = .ok (.ireturn, 1) := by decide +kernel
theorem d_HB_of_151 : decode M_HB_of.2.1 151 = .ok (.aload_n 0, 1) := by decide +kernel
theorem d_HB_of_152 : decode M_HB_of.2.1 152 = .ok (.getfield 12, 3) := by decide +kernel
theorem d_HB_of_155 : decode M_HB_of.2.1 155 = .ok (.getfield 49, 3) := by decide +kernel
theorem d_HB_of_158 : decode M_HB_of.2.1 158 = .ok (.iload_n 1, 1) := by decide +kernel
theorem d_HB_of_159 : decode M_HB_of.2.1 159 = .ok (.invokevirtual 92, 3) := by decide +kernel
theorem ln_HB_92 : Cond.methodLink "HandshakeBinds" 92 M_Led_gift.1 ∈ TB := inTB 398 (by decide +kernel) rfl
theorem lk_Led_gift : LVt M_Led_gift 1 := ⟨⟨inTB 64 (by decide +kernel) rfl, inTB 401 (by decide +kernel) rfl, ⟨by decide, by decide, by decide +kernel⟩, by decide⟩, inTB 399 (by decide +kernel) rfl, inTB 400 (by decide +kernel) rfl⟩
theorem d_HB_of_162 : decode M_HB_of.2.1 162 = .ok (.ireturn, 1) := by decide +kernel
theorem d_HB_of_163 : decode M_HB_of.2.1 163 = .ok (.ldc 64, 2) := by decide +kernel
theorem d_HB_of_165 : decode M_HB_of.2.1 165 = .ok (.ireturn, 1) := by decide +kernel
theorem d_HB_of_8 : decode M_HB_of.2.1 8 = .ok (.ldc 64, 2) := by decide +kernel
theorem d_HB_of_10 : decode M_HB_of.2.1 10 = .ok (.ireturn, 1) := by decide +kernel
def M_HB_partOf : XM := (⟨"HandshakeBinds", "partOf", "(III)J"⟩, prog_1_method_42_code, 7, (some .long))
theorem d_HB_partOf_0 : decode M_HB_partOf.2.1 0 = .ok (.iload_n 2, 1) := by decide +kernel
theorem d_HB_partOf_1 : decode M_HB_partOf.2.1 1 = .ok (.ifCond .lt 12, 3) := by decide +kernel
theorem d_HB_partOf_13 : decode M_HB_partOf.2.1 13 = .ok (.ldc2_w 268, 3) := by decide +kernel
theorem d_HB_partOf_16 : decode M_HB_partOf.2.1 16 = .ok (.lreturn, 1) := by decide +kernel
theorem d_HB_partOf_4 : decode M_HB_partOf.2.1 4 = .ok (.iload_n 2, 1) := by decide +kernel
theorem d_HB_partOf_5 : decode M_HB_partOf.2.1 5 = .ok (.iconst 1, 1) := by decide +kernel
theorem d_HB_partOf_6 : decode M_HB_partOf.2.1 6 = .ok (.if_icmp .gt 7, 3) := by decide +kernel
theorem d_HB_partOf_9 : decode M_HB_partOf.2.1 9 = .ok (.iload_n 1, 1) := by decide +kernel
theorem d_HB_partOf_10 : decode M_HB_partOf.2.1 10 = .ok (.ifCond .gt 7, 3) := by decide +kernel
theorem d_HB_partOf_17 : decode M_HB_partOf.2.1 17 = .ok (.iload_n 1, 1) := by decide +kernel
theorem d_HB_partOf_18 : decode M_HB_partOf.2.1 18 = .ok (.istore_n 3, 1) := by decide +kernel
theorem d_HB_partOf_19 : decode M_HB_partOf.2.1 19 = .ok (.iload_n 0, 1) := by decide +kernel
theorem d_HB_partOf_20 : decode M_HB_partOf.2.1 20 = .ok (.istore 4, 2) := by decide +kernel
theorem d_HB_partOf_22 : decode M_HB_partOf.2.1 22 = .ok (.iconst 0, 1) := by decide +kernel
theorem d_HB_partOf_23 : decode M_HB_partOf.2.1 23 = .ok (.istore 5, 2) := by decide +kernel
theorem d_HB_partOf_25 : decode M_HB_partOf.2.1 25 = .ok (.iload 5, 2) := by decide +kernel
theorem d_HB_partOf_27 : decode M_HB_partOf.2.1 27 = .ok (.bipush 100, 2) := by decide +kernel
theorem d_HB_partOf_29 : decode M_HB_partOf.2.1 29 = .ok (.if_icmp .ge 27, 3) := by decide +kernel
theorem d_HB_partOf_32 : decode M_HB_partOf.2.1 32 = .ok (.iload 4, 2) := by decide +kernel
theorem d_HB_partOf_34 : decode M_HB_partOf.2.1 34 = .ok (.ifCond .eq 22, 3) := by decide +kernel
theorem d_HB_partOf_56 : decode M_HB_partOf.2.1 56 = .ok (.iload_n 3, 1) := by decide +kernel
theorem d_HB_partOf_57 : decode M_HB_partOf.2.1 57 = .ok (.ifCond .ne 7, 3) := by decide +kernel
theorem d_HB_partOf_64 : decode M_HB_partOf.2.1 64 = .ok (.iload_n 2, 1) := by decide +kernel
theorem d_HB_partOf_65 : decode M_HB_partOf.2.1 65 = .ok (.ifCond .ne 10, 3) := by decide +kernel
theorem d_HB_partOf_75 : decode M_HB_partOf.2.1 75 = .ok (.iload_n 1, 1) := by decide +kernel
theorem d_HB_partOf_76 : decode M_HB_partOf.2.1 76 = .ok (.iload_n 3, 1) := by decide +kernel
theorem d_HB_partOf_77 : decode M_HB_partOf.2.1 77 = .ok (.idiv, 1) := by decide +kernel
theorem d_HB_partOf_78 : decode M_HB_partOf.2.1 78 = .ok (.i2l, 1) := by decide +kernel
theorem d_HB_partOf_79 : decode M_HB_partOf.2.1 79 = .ok (.lreturn, 1) := by decide +kernel
theorem d_HB_partOf_68 : decode M_HB_partOf.2.1 68 = .ok (.iload_n 0, 1) := by decide +kernel
theorem d_HB_partOf_69 : decode M_HB_partOf.2.1 69 = .ok (.iload_n 3, 1) := by decide +kernel
theorem d_HB_partOf_70 : decode M_HB_partOf.2.1 70 = .ok (.idiv, 1) := by decide +kernel
theorem d_HB_partOf_71 : decode M_HB_partOf.2.1 71 = .ok (.i2l, 1) := by decide +kernel
theorem d_HB_partOf_72 : decode M_HB_partOf.2.1 72 = .ok (.goto 7, 3) := by decide +kernel
theorem d_HB_partOf_37 : decode M_HB_partOf.2.1 37 = .ok (.iload_n 3, 1) := by decide +kernel
theorem d_HB_partOf_38 : decode M_HB_partOf.2.1 38 = .ok (.iload 4, 2) := by decide +kernel
theorem d_HB_partOf_40 : decode M_HB_partOf.2.1 40 = .ok (.irem, 1) := by decide +kernel
theorem d_HB_partOf_41 : decode M_HB_partOf.2.1 41 = .ok (.istore 6, 2) := by decide +kernel
theorem d_HB_partOf_43 : decode M_HB_partOf.2.1 43 = .ok (.iload 4, 2) := by decide +kernel
theorem d_HB_partOf_45 : decode M_HB_partOf.2.1 45 = .ok (.istore_n 3, 1) := by decide +kernel
theorem d_HB_partOf_46 : decode M_HB_partOf.2.1 46 = .ok (.iload 6, 2) := by decide +kernel
theorem d_HB_partOf_48 : decode M_HB_partOf.2.1 48 = .ok (.istore 4, 2) := by decide +kernel
theorem d_HB_partOf_50 : decode M_HB_partOf.2.1 50 = .ok (.iinc 5 1, 3) := by decide +kernel
theorem d_HB_partOf_53 : decode M_HB_partOf.2.1 53 = .ok (.goto (-28), 3) := by decide +kernel
def M_HB_odds : XM := (⟨"HandshakeBinds", "odds", "(I)J"⟩, prog_1_method_18_code, 2, (some .long))
theorem d_HB_odds_0 : decode M_HB_odds.2.1 0 = .ok (.aload_n 0, 1) := by decide +kernel
theorem d_HB_odds_1 : decode M_HB_odds.2.1 1 = .ok (.getfield 12, 3) := by decide +kernel
theorem d_HB_odds_4 : decode M_HB_odds.2.1 4 = .ok (.getfield 49, 3) := by decide +kernel
theorem d_HB_odds_7 : decode M_HB_odds.2.1 7 = .ok (.invokevirtual 196, 3) := by decide +kernel
theorem ln_HB_196 : Cond.methodLink "HandshakeBinds" 196 M_Led_failingAlone.1 ∈ TB := inTB 688 (by decide +kernel) rfl
theorem lk_Led_failingAlone : LVt M_Led_failingAlone 0 := ⟨⟨inTB 64 (by decide +kernel) rfl, inTB 691 (by decide +kernel) rfl, ⟨by decide, by decide, by decide +kernel⟩, by decide⟩, inTB 689 (by decide +kernel) rfl, inTB 690 (by decide +kernel) rfl⟩
theorem d_HB_odds_10 : decode M_HB_odds.2.1 10 = .ok (.aload_n 0, 1) := by decide +kernel
theorem d_HB_odds_11 : decode M_HB_odds.2.1 11 = .ok (.getfield 12, 3) := by decide +kernel
theorem d_HB_odds_14 : decode M_HB_odds.2.1 14 = .ok (.getfield 49, 3) := by decide +kernel
theorem d_HB_odds_17 : decode M_HB_odds.2.1 17 = .ok (.getfield 52, 3) := by decide +kernel
theorem d_HB_odds_20 : decode M_HB_odds.2.1 20 = .ok (.iload_n 1, 1) := by decide +kernel
theorem d_HB_odds_21 : decode M_HB_odds.2.1 21 = .ok (.invokestatic 199, 3) := by decide +kernel
theorem ln_HB_199 : Cond.methodLink "HandshakeBinds" 199 M_HB_partOf.1 ∈ TB := inTB 692 (by decide +kernel) rfl
theorem lk_HB_partOf : LSt M_HB_partOf 3 := ⟨⟨inTB 62 (by decide +kernel) rfl, inTB 694 (by decide +kernel) rfl, ⟨by decide, by decide, by decide +kernel⟩, by decide⟩, inTB 693 (by decide +kernel) rfl⟩
theorem d_HB_odds_24 : decode M_HB_odds.2.1 24 = .ok (.lreturn, 1) := by decide +kernel
def M_HB_mean : XM := (⟨"HandshakeBinds", "mean", "(I)J"⟩, prog_1_method_19_code, 2, (some .long))
theorem d_HB_mean_0 : decode M_HB_mean.2.1 0 = .ok (.aload_n 0, 1) := by decide +kernel
theorem d_HB_mean_1 : decode M_HB_mean.2.1 1 = .ok (.getfield 12, 3) := by decide +kernel
theorem d_HB_mean_4 : decode M_HB_mean.2.1 4 = .ok (.getfield 49, 3) := by decide +kernel
theorem d_HB_mean_7 : decode M_HB_mean.2.1 7 = .ok (.invokevirtual 203, 3) := by decide +kernel
theorem ln_HB_203 : Cond.methodLink "HandshakeBinds" 203 M_Led_allPurses.1 ∈ TB := inTB 700 (by decide +kernel) rfl
theorem lk_Led_allPurses : LVt M_Led_allPurses 0 := ⟨⟨inTB 64 (by decide +kernel) rfl, inTB 703 (by decide +kernel) rfl, ⟨by decide, by decide, by decide +kernel⟩, by decide⟩, inTB 701 (by decide +kernel) rfl, inTB 702 (by decide +kernel) rfl⟩
theorem d_HB_mean_10 : decode M_HB_mean.2.1 10 = .ok (.aload_n 0, 1) := by decide +kernel
theorem d_HB_mean_11 : decode M_HB_mean.2.1 11 = .ok (.getfield 12, 3) := by decide +kernel
theorem d_HB_mean_14 : decode M_HB_mean.2.1 14 = .ok (.getfield 49, 3) := by decide +kernel
theorem d_HB_mean_17 : decode M_HB_mean.2.1 17 = .ok (.getfield 52, 3) := by decide +kernel
theorem d_HB_mean_20 : decode M_HB_mean.2.1 20 = .ok (.iload_n 1, 1) := by decide +kernel
theorem d_HB_mean_21 : decode M_HB_mean.2.1 21 = .ok (.invokestatic 199, 3) := by decide +kernel
theorem d_HB_mean_24 : decode M_HB_mean.2.1 24 = .ok (.lreturn, 1) := by decide +kernel
def M_HB_ends : XM := (⟨"HandshakeBinds", "ends", "(I)I"⟩, prog_1_method_21_code, 3, (some .int))
theorem d_HB_ends_0 : decode M_HB_ends.2.1 0 = .ok (.iload_n 1, 1) := by decide +kernel
theorem d_HB_ends_1 : decode M_HB_ends.2.1 1 = .ok (.ifCond .lt 8, 3) := by decide +kernel
theorem d_HB_ends_9 : decode M_HB_ends.2.1 9 = .ok (.iconst (-1), 1) := by decide +kernel
theorem d_HB_ends_10 : decode M_HB_ends.2.1 10 = .ok (.ireturn, 1) := by decide +kernel
theorem d_HB_ends_4 : decode M_HB_ends.2.1 4 = .ok (.iload_n 1, 1) := by decide +kernel
theorem d_HB_ends_5 : decode M_HB_ends.2.1 5 = .ok (.iconst 1, 1) := by decide +kernel
theorem d_HB_ends_6 : decode M_HB_ends.2.1 6 = .ok (.if_icmp .le 5, 3) := by decide +kernel
theorem d_HB_ends_11 : decode M_HB_ends.2.1 11 = .ok (.aload_n 0, 1) := by decide +kernel
theorem d_HB_ends_12 : decode M_HB_ends.2.1 12 = .ok (.getfield 24, 3) := by decide +kernel
theorem gf_HB_24 : GF "HandshakeBinds" 24 0 2 := ⟨_, _, _, rfl, by decide, i_HB, inTB 319 (by decide +kernel) rfl⟩
theorem d_HB_ends_15 : decode M_HB_ends.2.1 15 = .ok (.aload_n 0, 1) := by decide +kernel
theorem d_HB_ends_16 : decode M_HB_ends.2.1 16 = .ok (.getfield 12, 3) := by decide +kernel
theorem d_HB_ends_19 : decode M_HB_ends.2.1 19 = .ok (.getfield 49, 3) := by decide +kernel
theorem d_HB_ends_22 : decode M_HB_ends.2.1 22 = .ok (.invokevirtual 209, 3) := by decide +kernel
theorem ln_HB_209 : Cond.methodLink "HandshakeBinds" 209 M_Led_copyFrom.1 ∈ TB := inTB 712 (by decide +kernel) rfl
theorem d_HB_ends_25 : decode M_HB_ends.2.1 25 = .ok (.iconst 0, 1) := by decide +kernel
theorem d_HB_ends_26 : decode M_HB_ends.2.1 26 = .ok (.istore_n 2, 1) := by decide +kernel
theorem d_HB_ends_27 : decode M_HB_ends.2.1 27 = .ok (.iload_n 2, 1) := by decide +kernel
theorem d_HB_ends_28 : decode M_HB_ends.2.1 28 = .ok (.aload_n 0, 1) := by decide +kernel
theorem d_HB_ends_29 : decode M_HB_ends.2.1 29 = .ok (.getfield 12, 3) := by decide +kernel
theorem d_HB_ends_32 : decode M_HB_ends.2.1 32 = .ok (.getfield 206, 3) := by decide +kernel
theorem d_HB_ends_35 : decode M_HB_ends.2.1 35 = .ok (.getfield 179, 3) := by decide +kernel
theorem d_HB_ends_38 : decode M_HB_ends.2.1 38 = .ok (.if_icmp .ge 40, 3) := by decide +kernel
theorem d_HB_ends_78 : decode M_HB_ends.2.1 78 = .ok (.iload_n 1, 1) := by decide +kernel
theorem d_HB_ends_79 : decode M_HB_ends.2.1 79 = .ok (.ifCond .ne 13, 3) := by decide +kernel
theorem d_HB_ends_92 : decode M_HB_ends.2.1 92 = .ok (.aload_n 0, 1) := by decide +kernel
theorem d_HB_ends_93 : decode M_HB_ends.2.1 93 = .ok (.getfield 24, 3) := by decide +kernel
theorem d_HB_ends_96 : decode M_HB_ends.2.1 96 = .ok (.iconst 0, 1) := by decide +kernel
theorem d_HB_ends_97 : decode M_HB_ends.2.1 97 = .ok (.iconst 0, 1) := by decide +kernel
theorem d_HB_ends_98 : decode M_HB_ends.2.1 98 = .ok (.invokevirtual 89, 3) := by decide +kernel
theorem d_HB_ends_101 : decode M_HB_ends.2.1 101 = .ok (.ireturn, 1) := by decide +kernel
theorem d_HB_ends_82 : decode M_HB_ends.2.1 82 = .ok (.aload_n 0, 1) := by decide +kernel
theorem d_HB_ends_83 : decode M_HB_ends.2.1 83 = .ok (.getfield 24, 3) := by decide +kernel
theorem d_HB_ends_86 : decode M_HB_ends.2.1 86 = .ok (.invokevirtual 172, 3) := by decide +kernel
theorem ln_HB_172 : Cond.methodLink "HandshakeBinds" 172 M_Led_total.1 ∈ TB := inTB 645 (by decide +kernel) rfl
theorem lk_Led_total : LVt M_Led_total 0 := ⟨⟨inTB 64 (by decide +kernel) rfl, inTB 648 (by decide +kernel) rfl, ⟨by decide, by decide, by decide +kernel⟩, by decide⟩, inTB 646 (by decide +kernel) rfl, inTB 647 (by decide +kernel) rfl⟩
theorem d_HB_ends_89 : decode M_HB_ends.2.1 89 = .ok (.goto 12, 3) := by decide +kernel
theorem d_HB_ends_41 : decode M_HB_ends.2.1 41 = .ok (.aload_n 0, 1) := by decide +kernel
theorem d_HB_ends_42 : decode M_HB_ends.2.1 42 = .ok (.getfield 24, 3) := by decide +kernel
theorem d_HB_ends_45 : decode M_HB_ends.2.1 45 = .ok (.aload_n 0, 1) := by decide +kernel
theorem d_HB_ends_46 : decode M_HB_ends.2.1 46 = .ok (.getfield 12, 3) := by decide +kernel
theorem d_HB_ends_49 : decode M_HB_ends.2.1 49 = .ok (.getfield 206, 3) := by decide +kernel
theorem d_HB_ends_52 : decode M_HB_ends.2.1 52 = .ok (.iload_n 2, 1) := by decide +kernel
theorem d_HB_ends_53 : decode M_HB_ends.2.1 53 = .ok (.iconst 0, 1) := by decide +kernel
theorem d_HB_ends_54 : decode M_HB_ends.2.1 54 = .ok (.invokevirtual 186, 3) := by decide +kernel
theorem d_HB_ends_57 : decode M_HB_ends.2.1 57 = .ok (.aload_n 0, 1) := by decide +kernel
theorem d_HB_ends_58 : decode M_HB_ends.2.1 58 = .ok (.getfield 12, 3) := by decide +kernel
theorem d_HB_ends_61 : decode M_HB_ends.2.1 61 = .ok (.getfield 206, 3) := by decide +kernel
theorem d_HB_ends_64 : decode M_HB_ends.2.1 64 = .ok (.iload_n 2, 1) := by decide +kernel
theorem d_HB_ends_65 : decode M_HB_ends.2.1 65 = .ok (.iconst 1, 1) := by decide +kernel
theorem d_HB_ends_66 : decode M_HB_ends.2.1 66 = .ok (.invokevirtual 186, 3) := by decide +kernel
theorem d_HB_ends_69 : decode M_HB_ends.2.1 69 = .ok (.invokevirtual 213, 3) := by decide +kernel
theorem ln_HB_213 : Cond.methodLink "HandshakeBinds" 213 M_Led_follow.1 ∈ TB := inTB 719 (by decide +kernel) rfl
theorem lk_Led_follow : LVt M_Led_follow 2 := ⟨⟨inTB 64 (by decide +kernel) rfl, inTB 722 (by decide +kernel) rfl, ⟨by decide, by decide, by decide +kernel⟩, by decide⟩, inTB 720 (by decide +kernel) rfl, inTB 721 (by decide +kernel) rfl⟩
theorem d_HB_ends_72 : decode M_HB_ends.2.1 72 = .ok (.iinc 2 1, 3) := by decide +kernel
theorem d_HB_ends_75 : decode M_HB_ends.2.1 75 = .ok (.goto (-48), 3) := by decide +kernel
def ccnt (ν : Nat → Nat → Nat) (w : Int32) : Int32 := if w = 0 then nI (ν 2 3) else if w = 1 then nI (ν 37 4) else if w = 2 then nI (ν 9 1) else if w = 3 then nI (ν 11 1) else if w = 4 then nI (ν 13 1) else if w = 5 then nI (ν 37 3) else if w = 6 then nI (ν 68 1) else -2
def M_HB_count : XM := (⟨"HandshakeBinds", "count", "(I)I"⟩, prog_1_method_30_code, 2, (some .int))
theorem d_HB_count_0 : decode M_HB_count.2.1 0 = .ok (.iload_n 1, 1) := by decide +kernel
theorem d_HB_count_1 : decode M_HB_count.2.1 1 = .ok (.tableswitch 111 0 6 #[43, 54, 62, 73, 84, 95, 103], 43) := by decide +kernel
theorem d_HB_count_44 : decode M_HB_count.2.1 44 = .ok (.aload_n 0, 1) := by decide +kernel
theorem d_HB_count_45 : decode M_HB_count.2.1 45 = .ok (.getfield 12, 3) := by decide +kernel
theorem d_HB_count_48 : decode M_HB_count.2.1 48 = .ok (.getfield 49, 3) := by decide +kernel
theorem d_HB_count_51 : decode M_HB_count.2.1 51 = .ok (.getfield 52, 3) := by decide +kernel
theorem d_HB_count_54 : decode M_HB_count.2.1 54 = .ok (.ireturn, 1) := by decide +kernel
theorem d_HB_count_55 : decode M_HB_count.2.1 55 = .ok (.aload_n 0, 1) := by decide +kernel
theorem d_HB_count_56 : decode M_HB_count.2.1 56 = .ok (.getfield 31, 3) := by decide +kernel
theorem d_HB_count_59 : decode M_HB_count.2.1 59 = .ok (.getfield 146, 3) := by decide +kernel
theorem gf_HB_146 : GFn "HandshakeBinds" 146 6 4 := ⟨_, _, _, rfl, by decide, i_Scr, inNW 253 (by decide +kernel) rfl⟩
theorem d_HB_count_62 : decode M_HB_count.2.1 62 = .ok (.ireturn, 1) := by decide +kernel
theorem d_HB_count_63 : decode M_HB_count.2.1 63 = .ok (.aload_n 0, 1) := by decide +kernel
theorem d_HB_count_64 : decode M_HB_count.2.1 64 = .ok (.getfield 12, 3) := by decide +kernel
theorem d_HB_count_67 : decode M_HB_count.2.1 67 = .ok (.getfield 175, 3) := by decide +kernel
theorem d_HB_count_70 : decode M_HB_count.2.1 70 = .ok (.getfield 179, 3) := by decide +kernel
theorem d_HB_count_73 : decode M_HB_count.2.1 73 = .ok (.ireturn, 1) := by decide +kernel
theorem d_HB_count_74 : decode M_HB_count.2.1 74 = .ok (.aload_n 0, 1) := by decide +kernel
theorem d_HB_count_75 : decode M_HB_count.2.1 75 = .ok (.getfield 12, 3) := by decide +kernel
theorem d_HB_count_78 : decode M_HB_count.2.1 78 = .ok (.getfield 206, 3) := by decide +kernel
theorem d_HB_count_81 : decode M_HB_count.2.1 81 = .ok (.getfield 179, 3) := by decide +kernel
theorem d_HB_count_84 : decode M_HB_count.2.1 84 = .ok (.ireturn, 1) := by decide +kernel
theorem d_HB_count_85 : decode M_HB_count.2.1 85 = .ok (.aload_n 0, 1) := by decide +kernel
theorem d_HB_count_86 : decode M_HB_count.2.1 86 = .ok (.getfield 12, 3) := by decide +kernel
theorem d_HB_count_89 : decode M_HB_count.2.1 89 = .ok (.getfield 217, 3) := by decide +kernel
theorem d_HB_count_92 : decode M_HB_count.2.1 92 = .ok (.getfield 179, 3) := by decide +kernel
theorem d_HB_count_95 : decode M_HB_count.2.1 95 = .ok (.ireturn, 1) := by decide +kernel
theorem d_HB_count_96 : decode M_HB_count.2.1 96 = .ok (.aload_n 0, 1) := by decide +kernel
theorem d_HB_count_97 : decode M_HB_count.2.1 97 = .ok (.getfield 31, 3) := by decide +kernel
theorem d_HB_count_100 : decode M_HB_count.2.1 100 = .ok (.getfield 142, 3) := by decide +kernel
theorem d_HB_count_103 : decode M_HB_count.2.1 103 = .ok (.ireturn, 1) := by decide +kernel
theorem d_HB_count_104 : decode M_HB_count.2.1 104 = .ok (.aload_n 0, 1) := by decide +kernel
theorem d_HB_count_105 : decode M_HB_count.2.1 105 = .ok (.getfield 38, 3) := by decide +kernel
theorem gf_HB_38 : GF "HandshakeBinds" 38 0 4 := ⟨_, _, _, rfl, by decide, i_HB, inTB 321 (by decide +kernel) rfl⟩
theorem d_HB_count_108 : decode M_HB_count.2.1 108 = .ok (.getfield 239, 3) := by decide +kernel
theorem gf_HB_239 : GFn "HandshakeBinds" 239 7 1 := ⟨_, _, _, rfl, by decide, i_Act, inNW 280 (by decide +kernel) rfl⟩
theorem d_HB_count_111 : decode M_HB_count.2.1 111 = .ok (.ireturn, 1) := by decide +kernel
theorem d_HB_count_112 : decode M_HB_count.2.1 112 = .ok (.bipush (-2), 2) := by decide +kernel
theorem d_HB_count_114 : decode M_HB_count.2.1 114 = .ok (.ireturn, 1) := by decide +kernel
def M_HB_trace : XM := (⟨"HandshakeBinds", "trace", "(I)I"⟩, prog_1_method_28_code, 2, (some .int))
theorem d_HB_trace_0 : decode M_HB_trace.2.1 0 = .ok (.iload_n 1, 1) := by decide +kernel
theorem d_HB_trace_1 : decode M_HB_trace.2.1 1 = .ok (.ifCond .lt 20, 3) := by decide +kernel
theorem d_HB_trace_21 : decode M_HB_trace.2.1 21 = .ok (.iconst (-1), 1) := by decide +kernel
theorem d_HB_trace_22 : decode M_HB_trace.2.1 22 = .ok (.ireturn, 1) := by decide +kernel
theorem d_HB_trace_4 : decode M_HB_trace.2.1 4 = .ok (.iload_n 1, 1) := by decide +kernel
theorem d_HB_trace_5 : decode M_HB_trace.2.1 5 = .ok (.aload_n 0, 1) := by decide +kernel
theorem d_HB_trace_6 : decode M_HB_trace.2.1 6 = .ok (.getfield 38, 3) := by decide +kernel
theorem d_HB_trace_9 : decode M_HB_trace.2.1 9 = .ok (.getfield 239, 3) := by decide +kernel
theorem d_HB_trace_12 : decode M_HB_trace.2.1 12 = .ok (.if_icmp .ge 9, 3) := by decide +kernel
theorem d_HB_trace_15 : decode M_HB_trace.2.1 15 = .ok (.iload_n 1, 1) := by decide +kernel
theorem d_HB_trace_16 : decode M_HB_trace.2.1 16 = .ok (.bipush 20, 2) := by decide +kernel
theorem d_HB_trace_18 : decode M_HB_trace.2.1 18 = .ok (.if_icmp .lt 5, 3) := by decide +kernel
theorem d_HB_trace_23 : decode M_HB_trace.2.1 23 = .ok (.aload_n 0, 1) := by decide +kernel
theorem d_HB_trace_24 : decode M_HB_trace.2.1 24 = .ok (.getfield 38, 3) := by decide +kernel
theorem d_HB_trace_27 : decode M_HB_trace.2.1 27 = .ok (.getfield 252, 3) := by decide +kernel
theorem gf_HB_252 : GFn "HandshakeBinds" 252 7 0 := ⟨_, _, _, rfl, by decide, i_Act, inNW 278 (by decide +kernel) rfl⟩
theorem d_HB_trace_30 : decode M_HB_trace.2.1 30 = .ok (.iload_n 1, 1) := by decide +kernel
theorem d_HB_trace_31 : decode M_HB_trace.2.1 31 = .ok (.invokestatic 69, 3) := by decide +kernel
theorem d_HB_trace_34 : decode M_HB_trace.2.1 34 = .ok (.ireturn, 1) := by decide +kernel
def M_HB_taken : XM := (⟨"HandshakeBinds", "taken", "(II)I"⟩, prog_1_method_29_code, 6, (some .int))
theorem d_HB_taken_0 : decode M_HB_taken.2.1 0 = .ok (.iload_n 2, 1) := by decide +kernel
theorem d_HB_taken_1 : decode M_HB_taken.2.1 1 = .ok (.ifCond .lt 9, 3) := by decide +kernel
theorem d_HB_taken_10 : decode M_HB_taken.2.1 10 = .ok (.bipush (-2), 2) := by decide +kernel
theorem d_HB_taken_12 : decode M_HB_taken.2.1 12 = .ok (.ireturn, 1) := by decide +kernel
theorem d_HB_taken_4 : decode M_HB_taken.2.1 4 = .ok (.iload_n 2, 1) := by decide +kernel
theorem d_HB_taken_5 : decode M_HB_taken.2.1 5 = .ok (.bipush 7, 2) := by decide +kernel
theorem d_HB_taken_7 : decode M_HB_taken.2.1 7 = .ok (.if_icmp .lt 6, 3) := by decide +kernel
theorem d_HB_taken_13 : decode M_HB_taken.2.1 13 = .ok (.aload_n 0, 1) := by decide +kernel
theorem d_HB_taken_14 : decode M_HB_taken.2.1 14 = .ok (.iload_n 1, 1) := by decide +kernel
theorem d_HB_taken_15 : decode M_HB_taken.2.1 15 = .ok (.invokevirtual 60, 3) := by decide +kernel
theorem d_HB_taken_18 : decode M_HB_taken.2.1 18 = .ok (.ifCond .ne 6, 3) := by decide +kernel
theorem d_HB_taken_24 : decode M_HB_taken.2.1 24 = .ok (.aload_n 0, 1) := by decide +kernel
theorem d_HB_taken_25 : decode M_HB_taken.2.1 25 = .ok (.getfield 12, 3) := by decide +kernel
theorem d_HB_taken_28 : decode M_HB_taken.2.1 28 = .ok (.getfield 65, 3) := by decide +kernel
theorem d_HB_taken_31 : decode M_HB_taken.2.1 31 = .ok (.iload_n 1, 1) := by decide +kernel
theorem d_HB_taken_32 : decode M_HB_taken.2.1 32 = .ok (.invokestatic 69, 3) := by decide +kernel
theorem d_HB_taken_35 : decode M_HB_taken.2.1 35 = .ok (.istore_n 3, 1) := by decide +kernel
theorem d_HB_taken_36 : decode M_HB_taken.2.1 36 = .ok (.iload_n 3, 1) := by decide +kernel
theorem d_HB_taken_37 : decode M_HB_taken.2.1 37 = .ok (.istore 4, 2) := by decide +kernel
theorem d_HB_taken_39 : decode M_HB_taken.2.1 39 = .ok (.iconst 0, 1) := by decide +kernel
theorem d_HB_taken_40 : decode M_HB_taken.2.1 40 = .ok (.istore 5, 2) := by decide +kernel
theorem d_HB_taken_42 : decode M_HB_taken.2.1 42 = .ok (.iload 5, 2) := by decide +kernel
theorem d_HB_taken_44 : decode M_HB_taken.2.1 44 = .ok (.bipush 7, 2) := by decide +kernel
theorem d_HB_taken_46 : decode M_HB_taken.2.1 46 = .ok (.if_icmp .ge 32, 3) := by decide +kernel
theorem d_HB_taken_78 : decode M_HB_taken.2.1 78 = .ok (.bipush (-12), 2) := by decide +kernel
theorem d_HB_taken_80 : decode M_HB_taken.2.1 80 = .ok (.ireturn, 1) := by decide +kernel
theorem d_HB_taken_49 : decode M_HB_taken.2.1 49 = .ok (.iload 4, 2) := by decide +kernel
theorem d_HB_taken_51 : decode M_HB_taken.2.1 51 = .ok (.ifCond .lt 27, 3) := by decide +kernel
theorem d_HB_taken_54 : decode M_HB_taken.2.1 54 = .ok (.iload 4, 2) := by decide +kernel
theorem d_HB_taken_56 : decode M_HB_taken.2.1 56 = .ok (.iload_n 2, 1) := by decide +kernel
theorem d_HB_taken_57 : decode M_HB_taken.2.1 57 = .ok (.if_icmp .ne 5, 3) := by decide +kernel
theorem d_HB_taken_62 : decode M_HB_taken.2.1 62 = .ok (.getstatic 255, 3) := by decide +kernel
theorem d_HB_taken_65 : decode M_HB_taken.2.1 65 = .ok (.iload 4, 2) := by decide +kernel
theorem d_HB_taken_67 : decode M_HB_taken.2.1 67 = .ok (.invokestatic 69, 3) := by decide +kernel
theorem d_HB_taken_70 : decode M_HB_taken.2.1 70 = .ok (.istore 4, 2) := by decide +kernel
theorem d_HB_taken_72 : decode M_HB_taken.2.1 72 = .ok (.iinc 5 1, 3) := by decide +kernel
theorem d_HB_taken_75 : decode M_HB_taken.2.1 75 = .ok (.goto (-33), 3) := by decide +kernel
theorem d_HB_taken_60 : decode M_HB_taken.2.1 60 = .ok (.iload_n 3, 1) := by decide +kernel
theorem d_HB_taken_61 : decode M_HB_taken.2.1 61 = .ok (.ireturn, 1) := by decide +kernel
theorem d_HB_taken_21 : decode M_HB_taken.2.1 21 = .ok (.bipush (-11), 2) := by decide +kernel
theorem d_HB_taken_23 : decode M_HB_taken.2.1 23 = .ok (.ireturn, 1) := by decide +kernel
def M_Scr_exchangeAt : XM := (⟨"HandshakeBinds$Scribe", "exchangeAt", "(I)LHandshakeBinds$Exchange;"⟩, prog_8_method_2_code, 3, (some (.object "HandshakeBinds$Exchange")))
theorem d_Scr_exchangeAt_0 : decode M_Scr_exchangeAt.2.1 0 = .ok (.iload_n 1, 1) := by decide +kernel
theorem d_Scr_exchangeAt_1 : decode M_Scr_exchangeAt.2.1 1 = .ok (.ifCond .lt 21, 3) := by decide +kernel
theorem d_Scr_exchangeAt_22 : decode M_Scr_exchangeAt.2.1 22 = .ok (.aconst_null, 1) := by decide +kernel
theorem d_Scr_exchangeAt_23 : decode M_Scr_exchangeAt.2.1 23 = .ok (.astore_n 2, 1) := by decide +kernel
theorem d_Scr_exchangeAt_24 : decode M_Scr_exchangeAt.2.1 24 = .ok (.aload_n 2, 1) := by decide +kernel
theorem d_Scr_exchangeAt_25 : decode M_Scr_exchangeAt.2.1 25 = .ok (.ifnonnull 10, 3) := by decide +kernel
theorem d_Scr_exchangeAt_28 : decode M_Scr_exchangeAt.2.1 28 = .ok (.aload_n 0, 1) := by decide +kernel
theorem d_Scr_exchangeAt_29 : decode M_Scr_exchangeAt.2.1 29 = .ok (.getfield 22, 3) := by decide +kernel
theorem gf_Scr_22 : GF "HandshakeBinds$Scribe" 22 6 2 := ⟨_, _, _, rfl, by decide, i_Scr, inTB 249 (by decide +kernel) rfl⟩
theorem d_Scr_exchangeAt_32 : decode M_Scr_exchangeAt.2.1 32 = .ok (.goto 4, 3) := by decide +kernel
theorem d_Scr_exchangeAt_36 : decode M_Scr_exchangeAt.2.1 36 = .ok (.areturn, 1) := by decide +kernel
theorem d_Scr_exchangeAt_4 : decode M_Scr_exchangeAt.2.1 4 = .ok (.iload_n 1, 1) := by decide +kernel
theorem d_Scr_exchangeAt_5 : decode M_Scr_exchangeAt.2.1 5 = .ok (.aload_n 0, 1) := by decide +kernel
theorem d_Scr_exchangeAt_6 : decode M_Scr_exchangeAt.2.1 6 = .ok (.getfield 17, 3) := by decide +kernel
theorem gf_Scr_17 : GF "HandshakeBinds$Scribe" 17 6 1 := ⟨_, _, _, rfl, by decide, i_Scr, inTB 248 (by decide +kernel) rfl⟩
theorem d_Scr_exchangeAt_9 : decode M_Scr_exchangeAt.2.1 9 = .ok (.arraylength, 1) := by decide +kernel
theorem d_Scr_exchangeAt_10 : decode M_Scr_exchangeAt.2.1 10 = .ok (.if_icmp .ge 12, 3) := by decide +kernel
theorem d_Scr_exchangeAt_13 : decode M_Scr_exchangeAt.2.1 13 = .ok (.aload_n 0, 1) := by decide +kernel
theorem d_Scr_exchangeAt_14 : decode M_Scr_exchangeAt.2.1 14 = .ok (.getfield 17, 3) := by decide +kernel
theorem d_Scr_exchangeAt_17 : decode M_Scr_exchangeAt.2.1 17 = .ok (.iload_n 1, 1) := by decide +kernel
theorem d_Scr_exchangeAt_18 : decode M_Scr_exchangeAt.2.1 18 = .ok (.aaload, 1) := by decide +kernel
theorem d_Scr_exchangeAt_19 : decode M_Scr_exchangeAt.2.1 19 = .ok (.goto 4, 3) := by decide +kernel
theorem d_Scr_exchangeAt_35 : decode M_Scr_exchangeAt.2.1 35 = .ok (.aload_n 2, 1) := by decide +kernel
def M_HB_held : XM := (⟨"HandshakeBinds", "held", "()LHandshakeBinds$Exchange;"⟩, prog_1_method_37_code, 1, (some (.object "HandshakeBinds$Exchange")))
theorem d_HB_held_0 : decode M_HB_held.2.1 0 = .ok (.aload_n 0, 1) := by decide +kernel
theorem d_HB_held_1 : decode M_HB_held.2.1 1 = .ok (.getfield 31, 3) := by decide +kernel
theorem d_HB_held_4 : decode M_HB_held.2.1 4 = .ok (.aload_n 0, 1) := by decide +kernel
theorem d_HB_held_5 : decode M_HB_held.2.1 5 = .ok (.getfield 12, 3) := by decide +kernel
theorem d_HB_held_8 : decode M_HB_held.2.1 8 = .ok (.getfield 152, 3) := by decide +kernel
theorem gf_HB_152 : GFn "HandshakeBinds" 152 1 10 := ⟨_, _, _, rfl, by decide, i_Mkt, inNW 186 (by decide +kernel) rfl⟩
theorem d_HB_held_11 : decode M_HB_held.2.1 11 = .ok (.invokevirtual 284, 3) := by decide +kernel
theorem ln_HB_284 : Cond.methodLink "HandshakeBinds" 284 M_Scr_exchangeAt.1 ∈ TB := inTB 430 (by decide +kernel) rfl
theorem lk_Scr_exchangeAt : LVt M_Scr_exchangeAt 1 := ⟨⟨inTB 68 (by decide +kernel) rfl, inTB 433 (by decide +kernel) rfl, ⟨by decide, by decide, by decide +kernel⟩, by decide⟩, inTB 431 (by decide +kernel) rfl, inTB 432 (by decide +kernel) rfl⟩
theorem d_HB_held_14 : decode M_HB_held.2.1 14 = .ok (.areturn, 1) := by decide +kernel
theorem c_HB_of (X : Xn) (a : Nat → Nat) (ν : Nat → Nat → Nat) (σ : Nat → Nat → Int32) (τ : Nat → Nat → Int64)  (p : Int32) (w : Int32) (hn6 : ν 2 3 ≤ 6) : Does X 7 M_HB_of [.ref (a 0), .int p, .int w] (CW X a ν σ τ) 0 0 (fun (vv : Option Value) (ww : va_W) => vv = some (.int (cofV (ν 2 3) (σ 6) (σ 7) (σ 3) (σ 4) p w)) ∧ ww = CW X a ν σ τ) := by
  generalize hQ : (fun (vv : Option Value) (ww : va_W) => vv = some (.int (cofV (ν 2 3) (σ 6) (σ 7) (σ 3) (σ 4) p w)) ∧ ww = CW X a ν σ τ) = Q
  refine Does.go rfl (Nat.le_of_ble_eq_true rfl) [some (.ref (a 0)), some (.int p), some (.int w)] 0 rfl ?_
  refine r_aload_n rfl 1 rfl d_HB_of_0 ?_
  refine r_iload_n rfl 2 rfl d_HB_of_1 ?_
  refine r_callVA1 (st2 := [.int (bI (isB (ν 2 3) p))]) (w2 := CW X a ν σ τ) lk_HB_isTrader ln_HB_60 (c_HB_isTrader X a ν σ τ  p (hn6)) (by first | decide | omega) rfl rfl (Nat.le_of_ble_eq_true rfl) (Nat.le_of_ble_eq_true rfl) (Nat.le_of_ble_eq_true rfl) 0 rfl rfl rfl rfl 5 rfl d_HB_of_2 ?_
  refine r_if_neB 8 11 rfl rfl d_HB_of_5 (fun h5 => ?_) (fun h5 => ?_)
  · obtain ⟨pN, hpN, rfl⟩ := isB_t hn6 h5
    have epN : cn (nI pN) = pN := cn_nI (by omega)
    have bp := isB_of hn6 hpN
    refine r_iload_n rfl 12 rfl d_HB_of_11 ?_
    by_cases h12_0 : w = 0
    · refine r_tableIn 60 d_HB_of_12 (by rw [h12_0]; decide) (by rw [h12_0]; decide) (by rw [h12_0]; try rfl) rfl ?_
      refine r_aload_n rfl 61 rfl d_HB_of_60 ?_
      refine r_getf (v := .ref (a 1)) gf_HB_12 0 rfl rfl 64 rfl d_HB_of_61 ?_
      refine r_getfn (v := .ref (a 6)) gf_HB_65 1 rfl rfl 67 rfl d_HB_of_64 ?_
      refine r_iload_n rfl 68 rfl d_HB_of_67 ?_
      refine r_callS1 (st2 := [.int (σ 6 pN)]) (w2 := CW X a ν σ τ) lk_HB_at ln_HB_69 (c_at X _ 6 pN (σ 6) (by omega) (by decide)) (by first | decide | omega) rfl rfl (Nat.le_of_ble_eq_true rfl) (Nat.le_of_ble_eq_true rfl) (Nat.le_of_ble_eq_true rfl) [6] rfl rfl rfl rfl rfl 71 rfl d_HB_of_68 ?_
      exact r_iret rfl (Nat.zero_le _) (Nat.zero_le _) d_HB_of_71 (by rw [← hQ]; exact ⟨by rw [cofV, if_pos bp, if_pos h12_0, epN], rfl⟩)
    by_cases h12_1 : w = 1
    · refine r_tableIn 72 d_HB_of_12 (by rw [h12_1]; decide) (by rw [h12_1]; decide) (by rw [h12_1]; try rfl) rfl ?_
      refine r_aload_n rfl 73 rfl d_HB_of_72 ?_
      refine r_getf (v := .ref (a 1)) gf_HB_12 0 rfl rfl 76 rfl d_HB_of_73 ?_
      refine r_getfn (v := .ref (a 7)) gf_HB_73 1 rfl rfl 79 rfl d_HB_of_76 ?_
      refine r_iload_n rfl 80 rfl d_HB_of_79 ?_
      refine r_callS1 (st2 := [.int (σ 7 pN)]) (w2 := CW X a ν σ τ) lk_HB_at ln_HB_69 (c_at X _ 6 pN (σ 7) (by omega) (by decide)) (by first | decide | omega) rfl rfl (Nat.le_of_ble_eq_true rfl) (Nat.le_of_ble_eq_true rfl) (Nat.le_of_ble_eq_true rfl) [7] rfl rfl rfl rfl rfl 83 rfl d_HB_of_80 ?_
      exact r_iret rfl (Nat.zero_le _) (Nat.zero_le _) d_HB_of_83 (by rw [← hQ]; exact ⟨by rw [cofV, if_pos bp, if_neg h12_0, if_pos h12_1, epN], rfl⟩)
    by_cases h12_2 : w = 2
    · refine r_tableIn 84 d_HB_of_12 (by rw [h12_2]; decide) (by rw [h12_2]; decide) (by rw [h12_2]; try rfl) rfl ?_
      refine r_aload_n rfl 85 rfl d_HB_of_84 ?_
      refine r_getf (v := .ref (a 1)) gf_HB_12 0 rfl rfl 88 rfl d_HB_of_85 ?_
      refine r_getfn (v := .ref (a 2)) gf_HB_49 1 rfl rfl 91 rfl d_HB_of_88 ?_
      refine r_getfn (v := .ref (a 3)) gf_HB_76 2 rfl rfl 94 rfl d_HB_of_91 ?_
      refine r_iload_n rfl 95 rfl d_HB_of_94 ?_
      refine r_callS1 (st2 := [.int (σ 3 pN)]) (w2 := CW X a ν σ τ) lk_HB_at ln_HB_69 (c_at X _ 6 pN (σ 3) (by omega) (by decide)) (by first | decide | omega) rfl rfl (Nat.le_of_ble_eq_true rfl) (Nat.le_of_ble_eq_true rfl) (Nat.le_of_ble_eq_true rfl) [3] rfl rfl rfl rfl rfl 98 rfl d_HB_of_95 ?_
      exact r_iret rfl (Nat.zero_le _) (Nat.zero_le _) d_HB_of_98 (by rw [← hQ]; exact ⟨by rw [cofV, if_pos bp, if_neg h12_0, if_neg h12_1, if_pos h12_2, epN], rfl⟩)
    by_cases h12_3 : w = 3
    · refine r_tableIn 99 d_HB_of_12 (by rw [h12_3]; decide) (by rw [h12_3]; decide) (by rw [h12_3]; try rfl) rfl ?_
      refine r_aload_n rfl 100 rfl d_HB_of_99 ?_
      refine r_getf (v := .ref (a 1)) gf_HB_12 0 rfl rfl 103 rfl d_HB_of_100 ?_
      refine r_getfn (v := .ref (a 2)) gf_HB_49 1 rfl rfl 106 rfl d_HB_of_103 ?_
      refine r_iload_n rfl 107 rfl d_HB_of_106 ?_
      refine r_callV1 (st2 := [.int (osum (σ 4) pN (ν 2 3))]) (w2 := CW X a ν σ τ) lk_Led_owesAll ln_HB_79 (c_Led_owesAll X (pl [2, 3, 4, 5] a) (pl [2, 3, 4, 5] ν) (pl [2, 3, 4, 5] σ) (pl [2, 3, 4, 5] τ)  pN (hn6) (by omega)) (by first | decide | omega) rfl rfl (Nat.le_of_ble_eq_true rfl) (Nat.le_of_ble_eq_true rfl) (Nat.le_of_ble_eq_true rfl) [2, 3, 4, 5] rfl rfl 0 rfl rfl rfl rfl rfl 110 rfl d_HB_of_107 ?_
      exact r_iret rfl (Nat.zero_le _) (Nat.zero_le _) d_HB_of_110 (by rw [← hQ]; exact ⟨by rw [cofV, if_pos bp, if_neg h12_0, if_neg h12_1, if_neg h12_2, if_pos h12_3, epN], rfl⟩)
    by_cases h12_4 : w = 4
    · refine r_tableIn 111 d_HB_of_12 (by rw [h12_4]; decide) (by rw [h12_4]; decide) (by rw [h12_4]; try rfl) rfl ?_
      refine r_aload_n rfl 112 rfl d_HB_of_111 ?_
      refine r_getf (v := .ref (a 1)) gf_HB_12 0 rfl rfl 115 rfl d_HB_of_112 ?_
      refine r_getfn (v := .ref (a 2)) gf_HB_49 1 rfl rfl 118 rfl d_HB_of_115 ?_
      refine r_iload_n rfl 119 rfl d_HB_of_118 ?_
      refine r_iconst (nI 0) rfl 120 rfl d_HB_of_119 ?_
      refine r_callV1 (st2 := [.int (dsum (σ 4) 0 pN (ν 2 3))]) (w2 := CW X a ν σ τ) lk_Led_owedBy ln_HB_83 (c_Led_owedBy X (pl [2, 3, 4, 5] a) (pl [2, 3, 4, 5] ν) (pl [2, 3, 4, 5] σ) (pl [2, 3, 4, 5] τ)  pN 0 (hn6) (by omega) (by decide)) (by first | decide | omega) rfl rfl (Nat.le_of_ble_eq_true rfl) (Nat.le_of_ble_eq_true rfl) (Nat.le_of_ble_eq_true rfl) [2, 3, 4, 5] rfl rfl 0 rfl rfl rfl rfl rfl 123 rfl d_HB_of_120 ?_
      exact r_iret rfl (Nat.zero_le _) (Nat.zero_le _) d_HB_of_123 (by rw [← hQ]; exact ⟨by rw [cofV, if_pos bp, if_neg h12_0, if_neg h12_1, if_neg h12_2, if_neg h12_3, if_pos h12_4, epN], rfl⟩)
    by_cases h12_5 : w = 5
    · refine r_tableIn 124 d_HB_of_12 (by rw [h12_5]; decide) (by rw [h12_5]; decide) (by rw [h12_5]; try rfl) rfl ?_
      refine r_aload_n rfl 125 rfl d_HB_of_124 ?_
      refine r_getf (v := .ref (a 1)) gf_HB_12 0 rfl rfl 128 rfl d_HB_of_125 ?_
      refine r_getfn (v := .ref (a 2)) gf_HB_49 1 rfl rfl 131 rfl d_HB_of_128 ?_
      refine r_iload_n rfl 132 rfl d_HB_of_131 ?_
      refine r_callV1 (st2 := [.int (bal (ν 2 3) (σ 4) pN)]) (w2 := CW X a ν σ τ) lk_Led_balance ln_HB_86 (c_Led_balance X (pl [2, 3, 4, 5] a) (pl [2, 3, 4, 5] ν) (pl [2, 3, 4, 5] σ) (pl [2, 3, 4, 5] τ)  pN (hn6) (by omega)) (by first | decide | omega) rfl rfl (Nat.le_of_ble_eq_true rfl) (Nat.le_of_ble_eq_true rfl) (Nat.le_of_ble_eq_true rfl) [2, 3, 4, 5] rfl rfl 0 rfl rfl rfl rfl rfl 135 rfl d_HB_of_132 ?_
      exact r_iret rfl (Nat.zero_le _) (Nat.zero_le _) d_HB_of_135 (by rw [← hQ]; exact ⟨by rw [cofV, if_pos bp, if_neg h12_0, if_neg h12_1, if_neg h12_2, if_neg h12_3, if_neg h12_4, if_pos h12_5, epN], rfl⟩)
    by_cases h12_6 : w = 6
    · refine r_tableIn 136 d_HB_of_12 (by rw [h12_6]; decide) (by rw [h12_6]; decide) (by rw [h12_6]; try rfl) rfl ?_
      refine r_aload_n rfl 137 rfl d_HB_of_136 ?_
      refine r_getf (v := .ref (a 1)) gf_HB_12 0 rfl rfl 140 rfl d_HB_of_137 ?_
      refine r_getfn (v := .ref (a 2)) gf_HB_49 1 rfl rfl 143 rfl d_HB_of_140 ?_
      refine r_iconst (nI 1) rfl 144 rfl d_HB_of_143 ?_
      refine r_iload_n rfl 145 rfl d_HB_of_144 ?_
      refine r_ishl 146 rfl d_HB_of_145 ?_
      refine r_topi (nI (1 <<< pN)) (nI_shl (by omega) (one_shl (by omega))) ?_
      refine r_iconst (nI 0) rfl 147 rfl d_HB_of_146 ?_
      refine r_callV1 (st2 := [.int (nI (fails (ν 2 3) (σ 3) (σ 4) (1 <<< pN)))]) (w2 := CW X a ν σ τ) lk_Led_failing ln_HB_89 (c_Led_failing0 X (pl [2, 3, 4, 5] a) (pl [2, 3, 4, 5] ν) (pl [2, 3, 4, 5] σ) (pl [2, 3, 4, 5] τ) (1 <<< pN) hn6 (shl_lt6 (by omega))) (by first | decide | omega) rfl rfl (Nat.le_of_ble_eq_true rfl) (Nat.le_of_ble_eq_true rfl) (Nat.le_of_ble_eq_true rfl) [2, 3, 4, 5] rfl rfl 0 rfl rfl rfl rfl rfl 150 rfl d_HB_of_147 ?_
      exact r_iret rfl (Nat.zero_le _) (Nat.zero_le _) d_HB_of_150 (by rw [← hQ]; exact ⟨by rw [cofV, if_pos bp, if_neg h12_0, if_neg h12_1, if_neg h12_2, if_neg h12_3, if_neg h12_4, if_neg h12_5, if_pos h12_6, epN], rfl⟩)
    by_cases h12_7 : w = 7
    · refine r_tableIn 151 d_HB_of_12 (by rw [h12_7]; decide) (by rw [h12_7]; decide) (by rw [h12_7]; try rfl) rfl ?_
      refine r_aload_n rfl 152 rfl d_HB_of_151 ?_
      refine r_getf (v := .ref (a 1)) gf_HB_12 0 rfl rfl 155 rfl d_HB_of_152 ?_
      refine r_getfn (v := .ref (a 2)) gf_HB_49 1 rfl rfl 158 rfl d_HB_of_155 ?_
      refine r_iload_n rfl 159 rfl d_HB_of_158 ?_
      refine r_callV1 (st2 := [.int (cgift (ν 2 3) (σ 3) (σ 4) pN)]) (w2 := CW X a ν σ τ) lk_Led_gift ln_HB_92 (c_Led_gift X (pl [2, 3, 4, 5] a) (pl [2, 3, 4, 5] ν) (pl [2, 3, 4, 5] σ) (pl [2, 3, 4, 5] τ)  pN (hn6) (by omega)) (by first | decide | omega) rfl rfl (Nat.le_of_ble_eq_true rfl) (Nat.le_of_ble_eq_true rfl) (Nat.le_of_ble_eq_true rfl) [2, 3, 4, 5] rfl rfl 0 rfl rfl rfl rfl rfl 162 rfl d_HB_of_159 ?_
      exact r_iret rfl (Nat.zero_le _) (Nat.zero_le _) d_HB_of_162 (by rw [← hQ]; exact ⟨by rw [cofV, if_pos bp, if_neg h12_0, if_neg h12_1, if_neg h12_2, if_neg h12_3, if_neg h12_4, if_neg h12_5, if_neg h12_6, if_pos h12_7, epN], rfl⟩)
    have t12_0 : ¬ (w).toInt = 0 := lv_neT h12_0 (by decide)
    have t12_1 : ¬ (w).toInt = 1 := lv_neT h12_1 (by decide)
    have t12_2 : ¬ (w).toInt = 2 := lv_neT h12_2 (by decide)
    have t12_3 : ¬ (w).toInt = 3 := lv_neT h12_3 (by decide)
    have t12_4 : ¬ (w).toInt = 4 := lv_neT h12_4 (by decide)
    have t12_5 : ¬ (w).toInt = 5 := lv_neT h12_5 (by decide)
    have t12_6 : ¬ (w).toInt = 6 := lv_neT h12_6 (by decide)
    have t12_7 : ¬ (w).toInt = 7 := lv_neT h12_7 (by decide)
    refine r_tableOut 163 d_HB_of_12 (by omega) rfl ?_
    refine r_ldc (v := (-1000001)) (inTB 363 (by decide +kernel) rfl) 165 rfl d_HB_of_163 ?_
    exact r_iret rfl (Nat.zero_le _) (Nat.zero_le _) d_HB_of_165 (by rw [← hQ]; exact ⟨by rw [cofV, if_pos bp, if_neg h12_0, if_neg h12_1, if_neg h12_2, if_neg h12_3, if_neg h12_4, if_neg h12_5, if_neg h12_6, if_neg h12_7], rfl⟩)
  · refine r_ldc (v := (-1000001)) (inTB 363 (by decide +kernel) rfl) 10 rfl d_HB_of_8 ?_
    exact r_iret rfl (Nat.zero_le _) (Nat.zero_le _) d_HB_of_10 (by rw [← hQ]; exact ⟨by simp [cofV, h5], rfl⟩)
theorem c_HB_partOf (X : Xn)  (A : Nat) (B : Nat) (q : Int32) (hA : A < 100000) (hB : B ≤ 6) : Does X 1 M_HB_partOf [.int (nI A), .int (nI B), .int q] ([]) 0 0 (fun (vv : Option Value) (ww : va_W) => vv = some (.long (R_pt A B q)) ∧ ww = []) := by
  generalize hQ : (fun (vv : Option Value) (ww : va_W) => vv = some (.long (R_pt A B q)) ∧ ww = []) = Q
  refine Does.go rfl (Nat.le_of_ble_eq_true rfl) [some (.int (nI A)), some (.int (nI B)), some (.int q), none, none, none, none] 4 rfl ?_
  refine r_iload_n rfl 1 rfl d_HB_partOf_0 ?_
  refine r_if_lt 4 13 rfl rfl d_HB_partOf_1 (fun h1 => ?_) (fun h1 => ?_)
  · have r_q : inR q (nI 0) (nI 1) = false := inR_lt h1
    refine r_ldc2 (v := (-9223372036854775808)) (inTB 695 (by decide +kernel) rfl) 16 rfl d_HB_partOf_13 ?_
    exact r_lret rfl (Nat.zero_le _) (Nat.zero_le _) d_HB_partOf_16 (by rw [← hQ]; exact ⟨by simp [R_pt, r_q], rfl⟩)
  · refine r_iload_n rfl 5 rfl d_HB_partOf_4 ?_
    refine r_iconst (nI 1) rfl 6 rfl d_HB_partOf_5 ?_
    refine r_icmp_gt 9 13 rfl rfl d_HB_partOf_6 (fun h6 => ?_) (fun h6 => ?_)
    · have r_q : inR q (nI 0) (nI 1) = false := inR_gt h6
      refine r_ldc2 (v := (-9223372036854775808)) (inTB 695 (by decide +kernel) rfl) 16 rfl d_HB_partOf_13 ?_
      exact r_lret rfl (Nat.zero_le _) (Nat.zero_le _) d_HB_partOf_16 (by rw [← hQ]; exact ⟨by simp [R_pt, r_q], rfl⟩)
    · have r_q : inR q (nI 0) (nI 1) = true := inR_in h1 h6
      refine r_iload_n rfl 10 rfl d_HB_partOf_9 ?_
      refine r_if_gtN B (by omega) 13 17 rfl rfl d_HB_partOf_10 (fun h10 => ?_) (fun h10 => ?_)
      · refine r_iload_n rfl 18 rfl d_HB_partOf_17 ?_
        refine r_istore_n (ls2 := [some (.int (nI A)), some (.int (nI B)), some (.int q), some (.int (nI B)), none, none, none]) 19 rfl d_HB_partOf_18 (by decide) rfl rfl ?_
        refine r_iload_n rfl 20 rfl d_HB_partOf_19 ?_
        refine r_istore (ls2 := [some (.int (nI A)), some (.int (nI B)), some (.int q), some (.int (nI B)), some (.int (nI A)), none, none]) 22 rfl d_HB_partOf_20 (by decide) rfl rfl ?_
        refine r_iconst (nI 0) rfl 23 rfl d_HB_partOf_22 ?_
        refine r_istore (ls2 := [some (.int (nI A)), some (.int (nI B)), some (.int q), some (.int (nI B)), some (.int (nI A)), some (.int (nI 0)), none]) 25 rfl d_HB_partOf_23 (by decide) rfl rfl ?_
        have L25_1 : ∀ (f : Nat) (x : Nat) (y : Nat) (i : Nat), (Nat.gcd y x = Nat.gcd A B) → (x < 100000) → (y < 100000) → (y + i < 100 ∨ (i = 0 ∧ x ≤ 6)) → (0 < x ∨ 0 < y) → y < f → Runs X 1 M_HB_partOf 0 0 Q 25 [some (.int (nI A)), some (.int (nI B)), some (.int q), some (.int (nI x)), some (.int (nI y)), some (.int (nI i)), none] [] 0 0 ([]) := by
          intro f
          induction f with
          | zero => intro x y i hg hxb hyb hib hxy hmu; exact absurd hmu (Nat.not_lt_zero _)
          | succ f ih2 =>
            intro x y i hg hxb hyb hib hxy hmu
            refine r_iload rfl 27 rfl d_HB_partOf_25 ?_
            refine r_bipush (nI 100) rfl 29 rfl d_HB_partOf_27 ?_
            refine r_icmp_geN_f i 100 (by omega) (by omega) 32 rfl 56 rfl d_HB_partOf_29 (by omega) ?_
            refine r_iload rfl 34 rfl d_HB_partOf_32 ?_
            refine r_if_eqN y (by omega) 37 56 rfl rfl d_HB_partOf_34 (fun h34 => ?_) (fun h34 => ?_)
            · have ex : Nat.gcd B A = x := by rw [Nat.gcd_comm, ← hg, h34, Nat.gcd_zero_left]
              refine r_iload_n rfl 57 rfl d_HB_partOf_56 ?_
              refine r_if_neN_t x (by omega) 64 rfl d_HB_partOf_57 (by omega) ?_
              refine r_iload_n rfl 65 rfl d_HB_partOf_64 ?_
              refine r_if_ne 68 75 rfl rfl d_HB_partOf_65 (fun h65 => ?_) (fun h65 => ?_)
              · refine r_iload_n rfl 76 rfl d_HB_partOf_75 ?_
                refine r_iload_n rfl 77 rfl d_HB_partOf_76 ?_
                refine r_idiv (nz_I (by omega) (by omega)) 78 rfl d_HB_partOf_77 ?_
                refine r_topi (nI (B / x)) (pk_div (by omega) (by omega) (by omega)) ?_
                refine r_i2l 79 rfl d_HB_partOf_78 ?_
                refine r_topl (lN (B / x)) (nI_l (Nat.lt_of_le_of_lt (Nat.div_le_self _ _) (by omega))) ?_
                exact r_lret rfl (Nat.zero_le _) (Nat.zero_le _) d_HB_partOf_79 (by rw [← hQ]; exact ⟨by rw [R_pt, if_pos ⟨r_q, by omega⟩, R_part, if_neg h65, ex], rfl⟩)
              · refine r_iload_n rfl 69 rfl d_HB_partOf_68 ?_
                refine r_iload_n rfl 70 rfl d_HB_partOf_69 ?_
                refine r_idiv (nz_I (by omega) (by omega)) 71 rfl d_HB_partOf_70 ?_
                refine r_topi (nI (A / x)) (pk_div (by omega) (by omega) (by omega)) ?_
                refine r_i2l 72 rfl d_HB_partOf_71 ?_
                refine r_topl (lN (A / x)) (nI_l (Nat.lt_of_le_of_lt (Nat.div_le_self _ _) (by omega))) ?_
                refine r_goto 79 rfl d_HB_partOf_72 ?_
                exact r_lret rfl (Nat.zero_le _) (Nat.zero_le _) d_HB_partOf_79 (by rw [← hQ]; exact ⟨by rw [R_pt, if_pos ⟨r_q, by omega⟩, R_part, if_pos h65, ex], rfl⟩)
            · refine r_iload_n rfl 38 rfl d_HB_partOf_37 ?_
              refine r_iload rfl 40 rfl d_HB_partOf_38 ?_
              refine r_irem (nz_I (by omega) h34) 41 rfl d_HB_partOf_40 ?_
              refine r_topi (nI (x % y)) (pk_rem (by omega) (by omega) (by omega)) ?_
              refine r_istore (ls2 := [some (.int (nI A)), some (.int (nI B)), some (.int q), some (.int (nI x)), some (.int (nI y)), some (.int (nI i)), some (.int (nI (x % y)))]) 43 rfl d_HB_partOf_41 (by decide) rfl rfl ?_
              refine r_iload rfl 45 rfl d_HB_partOf_43 ?_
              refine r_istore_n (ls2 := [some (.int (nI A)), some (.int (nI B)), some (.int q), some (.int (nI y)), some (.int (nI y)), some (.int (nI i)), some (.int (nI (x % y)))]) 46 rfl d_HB_partOf_45 (by decide) rfl rfl ?_
              refine r_iload rfl 48 rfl d_HB_partOf_46 ?_
              refine r_istore (ls2 := [some (.int (nI A)), some (.int (nI B)), some (.int q), some (.int (nI y)), some (.int (nI (x % y))), some (.int (nI i)), some (.int (nI (x % y)))]) 50 rfl d_HB_partOf_48 (by decide) rfl rfl ?_
              refine r_iinc (ls2 := [some (.int (nI A)), some (.int (nI B)), some (.int q), some (.int (nI y)), some (.int (nI (x % y))), some (.int (nI (i + 1))), some (.int (nI (x % y)))]) (nI (i + 1)) rfl (nI_1 _) 53 rfl d_HB_partOf_50 (by decide) rfl rfl ?_
              refine r_goto 25 rfl d_HB_partOf_53 ?_
              refine r_forget (ls2 := [some (.int (nI A)), some (.int (nI B)), some (.int q), some (.int (nI y)), some (.int (nI (x % y))), some (.int (nI (i + 1))), none]) 6 rfl ?_
              exact ih2 y (x % y) (i + 1) (gcd_step hg) (by omega) (Nat.lt_trans (Nat.mod_lt _ (by omega)) hyb) (Or.inl (by have := Nat.mod_lt x (show 0 < y by omega); have := Nat.mod_le x y; omega)) (Or.inl (by omega)) (by have := Nat.mod_lt x (show 0 < y by omega); omega)
        exact L25_1 _ B A 0 (rfl) (by omega) (hA) (Or.inr ⟨rfl, hB⟩) (by omega) (Nat.lt_succ_self _)
      · have eB : B = 0 := by omega
        refine r_ldc2 (v := (-9223372036854775808)) (inTB 695 (by decide +kernel) rfl) 16 rfl d_HB_partOf_13 ?_
        exact r_lret rfl (Nat.zero_le _) (Nat.zero_le _) d_HB_partOf_16 (by rw [← hQ]; exact ⟨by simp [R_pt, r_q, eB], rfl⟩)
theorem c_HB_odds (X : Xn) (a : Nat → Nat) (ν : Nat → Nat → Nat) (σ : Nat → Nat → Int32) (τ : Nat → Nat → Int64)  (q : Int32) (hn6 : ν 2 3 ≤ 6) : Does X 7 M_HB_odds [.ref (a 0), .int q] (CW X a ν σ τ) 0 0 (fun (vv : Option Value) (ww : va_W) => vv = some (.long (R_odds (ν 2 3) (σ 3) (σ 4) q)) ∧ ww = CW X a ν σ τ) := by
  generalize hQ : (fun (vv : Option Value) (ww : va_W) => vv = some (.long (R_odds (ν 2 3) (σ 3) (σ 4) q)) ∧ ww = CW X a ν σ τ) = Q
  refine Does.go rfl (Nat.le_of_ble_eq_true rfl) [some (.ref (a 0)), some (.int q)] 0 rfl ?_
  refine r_aload_n rfl 1 rfl d_HB_odds_0 ?_
  refine r_getf (v := .ref (a 1)) gf_HB_12 0 rfl rfl 4 rfl d_HB_odds_1 ?_
  refine r_getfn (v := .ref (a 2)) gf_HB_49 1 rfl rfl 7 rfl d_HB_odds_4 ?_
  refine r_callV1 (st2 := [.int (nI (alone (ν 2 3) (σ 3) (σ 4) (ν 2 3)))]) (w2 := CW X a ν σ τ) lk_Led_failingAlone ln_HB_196 (c_Led_failingAlone X (pl [2, 3, 4, 5] a) (pl [2, 3, 4, 5] ν) (pl [2, 3, 4, 5] σ) (pl [2, 3, 4, 5] τ)   (hn6)) (by first | decide | omega) rfl rfl (Nat.le_of_ble_eq_true rfl) (Nat.le_of_ble_eq_true rfl) (Nat.le_of_ble_eq_true rfl) [2, 3, 4, 5] rfl rfl 0 rfl rfl rfl rfl rfl 10 rfl d_HB_odds_7 ?_
  refine r_aload_n rfl 11 rfl d_HB_odds_10 ?_
  refine r_getf (v := .ref (a 1)) gf_HB_12 0 rfl rfl 14 rfl d_HB_odds_11 ?_
  refine r_getfn (v := .ref (a 2)) gf_HB_49 1 rfl rfl 17 rfl d_HB_odds_14 ?_
  refine r_getfn (v := .int (nI (ν 2 3))) gf_HB_52 2 rfl rfl 20 rfl d_HB_odds_17 ?_
  refine r_iload_n rfl 21 rfl d_HB_odds_20 ?_
  refine r_callS1 (st2 := [.long (R_pt (alone (ν 2 3) (σ 3) (σ 4) (ν 2 3)) (ν 2 3) q)]) (w2 := CW X a ν σ τ) lk_HB_partOf ln_HB_199 (c_HB_partOf X (alone (ν 2 3) (σ 3) (σ 4) (ν 2 3)) (ν 2 3) q (Nat.lt_of_le_of_lt (alone_le _ _ _ _) (by omega)) (by omega)) (by first | decide | omega) rfl rfl (Nat.le_of_ble_eq_true rfl) (Nat.le_of_ble_eq_true rfl) (Nat.le_of_ble_eq_true rfl) [] rfl rfl rfl rfl rfl 24 rfl d_HB_odds_21 ?_
  exact r_lret rfl (Nat.zero_le _) (Nat.zero_le _) d_HB_odds_24 (by rw [← hQ]; exact ⟨rfl, rfl⟩)
theorem c_HB_mean (X : Xn) (a : Nat → Nat) (ν : Nat → Nat → Nat) (σ : Nat → Nat → Int32) (τ : Nat → Nat → Int64) (pv : Nat → Nat) (q : Int32) (hn6 : ν 2 3 ≤ 6) (hpu : ∀ i, i < ν 2 3 → σ 3 i = nI (pv i)) (hpv : ∀ i, i < ν 2 3 → pv i ≤ 9999) : Does X 4 M_HB_mean [.ref (a 0), .int q] (CW X a ν σ τ) 0 0 (fun (vv : Option Value) (ww : va_W) => vv = some (.long (R_mean (ν 2 3) pv q)) ∧ ww = CW X a ν σ τ) := by
  generalize hQ : (fun (vv : Option Value) (ww : va_W) => vv = some (.long (R_mean (ν 2 3) pv q)) ∧ ww = CW X a ν σ τ) = Q
  refine Does.go rfl (Nat.le_of_ble_eq_true rfl) [some (.ref (a 0)), some (.int q)] 0 rfl ?_
  have hps := psum_le (ν 2 3) hpv
  refine r_aload_n rfl 1 rfl d_HB_mean_0 ?_
  refine r_getf (v := .ref (a 1)) gf_HB_12 0 rfl rfl 4 rfl d_HB_mean_1 ?_
  refine r_getfn (v := .ref (a 2)) gf_HB_49 1 rfl rfl 7 rfl d_HB_mean_4 ?_
  refine r_callV1 (st2 := [.int (isum (σ 3) (ν 2 3))]) (w2 := CW X a ν σ τ) lk_Led_allPurses ln_HB_203 (c_Led_allPurses X (pl [2, 3, 4, 5] a) (pl [2, 3, 4, 5] ν) (pl [2, 3, 4, 5] σ) (pl [2, 3, 4, 5] τ)   (hn6)) (by first | decide | omega) rfl rfl (Nat.le_of_ble_eq_true rfl) (Nat.le_of_ble_eq_true rfl) (Nat.le_of_ble_eq_true rfl) [2, 3, 4, 5] rfl rfl 0 rfl rfl rfl rfl rfl 10 rfl d_HB_mean_7 ?_
  refine r_topi (nI (psum pv (ν 2 3))) (isum_psum _ hpu) ?_
  refine r_aload_n rfl 11 rfl d_HB_mean_10 ?_
  refine r_getf (v := .ref (a 1)) gf_HB_12 0 rfl rfl 14 rfl d_HB_mean_11 ?_
  refine r_getfn (v := .ref (a 2)) gf_HB_49 1 rfl rfl 17 rfl d_HB_mean_14 ?_
  refine r_getfn (v := .int (nI (ν 2 3))) gf_HB_52 2 rfl rfl 20 rfl d_HB_mean_17 ?_
  refine r_iload_n rfl 21 rfl d_HB_mean_20 ?_
  refine r_callS1 (st2 := [.long (R_pt (psum pv (ν 2 3)) (ν 2 3) q)]) (w2 := CW X a ν σ τ) lk_HB_partOf ln_HB_199 (c_HB_partOf X (psum pv (ν 2 3)) (ν 2 3) q (by omega) (by omega)) (by first | decide | omega) rfl rfl (Nat.le_of_ble_eq_true rfl) (Nat.le_of_ble_eq_true rfl) (Nat.le_of_ble_eq_true rfl) [] rfl rfl rfl rfl rfl 24 rfl d_HB_mean_21 ?_
  exact r_lret rfl (Nat.zero_le _) (Nat.zero_le _) d_HB_mean_24 (by rw [← hQ]; exact ⟨rfl, rfl⟩)
theorem c_HB_ends (X : Xn) (a : Nat → Nat) (ν : Nat → Nat → Nat) (σ : Nat → Nat → Int32) (τ : Nat → Nat → Int64)  (w : Int32) (hn6 : ν 2 3 ≤ 6) (hpl : planOk (σ 12) (ν 11 1)) : Does X 6 M_HB_ends [.ref (a 0), .int w] (CW X a ν σ τ) 0 0 (fun (vv : Option Value) (ww : va_W) => vv = some (.int (R_ends (ν 2 3) (ν 11 1) (col (σ 12) 0) (col (σ 12) 1) (σ 3) (σ 4) w)) ∧ ∃ (z : Nat) (g1 g2 : Nat → Int32), ww = CW X a (pu ν 33 (u1 (ν 33) 3 z)) (u2 (u2 σ 34 g1) 35 g2) τ) := by
  generalize hQ : (fun (vv : Option Value) (ww : va_W) => vv = some (.int (R_ends (ν 2 3) (ν 11 1) (col (σ 12) 0) (col (σ 12) 1) (σ 3) (σ 4) w)) ∧ ∃ (z : Nat) (g1 g2 : Nat → Int32), ww = CW X a (pu ν 33 (u1 (ν 33) 3 z)) (u2 (u2 σ 34 g1) 35 g2) τ) = Q
  refine Does.go rfl (Nat.le_of_ble_eq_true rfl) [some (.ref (a 0)), some (.int w), none] 1 rfl ?_
  have h10 := hpl.1
  refine r_iload_n rfl 1 rfl d_HB_ends_0 ?_
  refine r_if_lt 4 9 rfl rfl d_HB_ends_1 (fun h1 => ?_) (fun h1 => ?_)
  · have r_w : inR w (nI 0) (nI 1) = false := inR_lt h1
    refine r_iconst ((-1)) rfl 10 rfl d_HB_ends_9 ?_
    exact r_iret rfl (Nat.zero_le _) (Nat.zero_le _) d_HB_ends_10 (by rw [← hQ]; exact ⟨by simp [R_ends, r_w], ν 33 3, σ 34, σ 35, by rw [u1_self, pu_self, u2_self, u2_self]⟩)
  · refine r_iload_n rfl 5 rfl d_HB_ends_4 ?_
    refine r_iconst (nI 1) rfl 6 rfl d_HB_ends_5 ?_
    refine r_icmp_le 9 11 rfl rfl d_HB_ends_6 (fun h6 => ?_) (fun h6 => ?_)
    · have r_w : inR w (nI 0) (nI 1) = true := inR_in h1 (Int32.not_lt.mpr h6)
      obtain ⟨wN, hwN, rfl⟩ := inR_t (by decide) r_w
      have ewN : cn (nI wN) = wN := cn_nI (by omega)
      refine r_aload_n rfl 12 rfl d_HB_ends_11 ?_
      refine r_getf (v := .ref (a 33)) gf_HB_24 0 rfl rfl 15 rfl d_HB_ends_12 ?_
      refine r_aload_n rfl 16 rfl d_HB_ends_15 ?_
      refine r_getf (v := .ref (a 1)) gf_HB_12 0 rfl rfl 19 rfl d_HB_ends_16 ?_
      refine r_getfn (v := .ref (a 2)) gf_HB_49 1 rfl rfl 22 rfl d_HB_ends_19 ?_
      refine r_callV1 (st2 := []) (w2 := CW X a (pu ν 33 (u1 (ν 33) 3 (ν 2 3))) (u2 (u2 σ 34 (va_cpy (σ 3) (σ 34) 0 0 6)) 35 (va_cpy (σ 4) (σ 35) 0 0 36)) τ) lk_Led_copyFrom ln_HB_209 (c_Led_copyFrom X (pl [33, 34, 35, 36, 2, 3, 4, 5] a) (pl [33, 34, 35, 36, 2, 3, 4, 5] ν) (pl [33, 34, 35, 36, 2, 3, 4, 5] σ) (pl [33, 34, 35, 36, 2, 3, 4, 5] τ)   ) (by first | decide | omega) rfl rfl (Nat.le_of_ble_eq_true rfl) (Nat.le_of_ble_eq_true rfl) (Nat.le_of_ble_eq_true rfl) [33, 34, 35, 36, 2, 3, 4, 5] rfl rfl 0 rfl rfl rfl rfl rfl 25 rfl d_HB_ends_22 ?_
      refine r_arrI (w2 := CW X a (pu ν 33 (u1 (ν 33) 3 (ν 2 3))) (u2 (u2 (u2 σ 34 (va_cpy (σ 3) (σ 34) 0 0 6)) 35 (va_cpy (σ 4) (σ 35) 0 0 36)) 34 (σ 3)) τ) 34 rfl (σ 3) (fun z hz => cpy_ex hz) rfl ?_
      refine r_arrI (w2 := CW X a (pu ν 33 (u1 (ν 33) 3 (ν 2 3))) (u2 (u2 σ 34 (σ 3)) 35 (σ 4)) τ) 35 rfl (σ 4) (fun z hz => cpy_ex hz) rfl ?_
      refine r_iconst (nI 0) rfl 26 rfl d_HB_ends_25 ?_
      refine r_istore_n (ls2 := [some (.ref (a 0)), some (.int (nI wN)), some (.int (nI 0))]) 27 rfl d_HB_ends_26 (by decide) rfl rfl ?_
      have L27_1 : ∀ (f : Nat) (i : Nat), (i ≤ ν 11 1) → ν 11 1 - i < f → Runs X 6 M_HB_ends 0 0 Q 27 [some (.ref (a 0)), some (.int (nI wN)), some (.int (nI i))] [] 0 0 (CW X a (pu ν 33 (u1 (ν 33) 3 (ν 2 3))) (u2 (u2 σ 34 (planN (ν 2 3) (col (σ 12) 0) (col (σ 12) 1) (σ 3, σ 4) i).1) 35 (planN (ν 2 3) (col (σ 12) 0) (col (σ 12) 1) (σ 3, σ 4) i).2) τ) := by
        intro f
        induction f with
        | zero => intro i hi hmu; exact absurd hmu (Nat.not_lt_zero _)
        | succ f ih2 =>
          intro i hi hmu
          refine r_iload_n rfl 28 rfl d_HB_ends_27 ?_
          refine r_aload_n rfl 29 rfl d_HB_ends_28 ?_
          refine r_getf (v := .ref (a 1)) gf_HB_12 0 rfl rfl 32 rfl d_HB_ends_29 ?_
          refine r_getfn (v := .ref (a 11)) gf_HB_206 1 rfl rfl 35 rfl d_HB_ends_32 ?_
          refine r_getfn (v := .int (nI (ν 11 1))) gf_HB_179 11 rfl rfl 38 rfl d_HB_ends_35 ?_
          refine r_icmp_geN i (ν 11 1) (by omega) (by omega) 41 78 rfl rfl d_HB_ends_38 (fun h38 => ?_) (fun h38 => ?_)
          · refine r_iload_n rfl 79 rfl d_HB_ends_78 ?_
            refine r_if_neN wN (by omega) 82 92 rfl rfl d_HB_ends_79 (fun h79 => ?_) (fun h79 => ?_)
            · refine r_aload_n rfl 93 rfl d_HB_ends_92 ?_
              refine r_getf (v := .ref (a 33)) gf_HB_24 0 rfl rfl 96 rfl d_HB_ends_93 ?_
              refine r_iconst (nI 0) rfl 97 rfl d_HB_ends_96 ?_
              refine r_iconst (nI 0) rfl 98 rfl d_HB_ends_97 ?_
              refine r_callV1 (st2 := [.int (nI (fails (ν 2 3) ((planN (ν 2 3) (col (σ 12) 0) (col (σ 12) 1) (σ 3, σ 4) i).1) ((planN (ν 2 3) (col (σ 12) 0) (col (σ 12) 1) (σ 3, σ 4) i).2) 0))]) (w2 := CW X a (pu ν 33 (u1 (ν 33) 3 (ν 2 3))) (u2 (u2 σ 34 (planN (ν 2 3) (col (σ 12) 0) (col (σ 12) 1) (σ 3, σ 4) i).1) 35 (planN (ν 2 3) (col (σ 12) 0) (col (σ 12) 1) (σ 3, σ 4) i).2) τ) lk_Led_failing ln_HB_89 (c_Led_failing0 X (pl [33, 34, 35, 36] a) (pl [33, 34, 35, 36] (pu ν 33 (u1 (ν 33) 3 (ν 2 3)))) (pl [33, 34, 35, 36] (u2 (u2 σ 34 (planN (ν 2 3) (col (σ 12) 0) (col (σ 12) 1) (σ 3, σ 4) i).1) 35 (planN (ν 2 3) (col (σ 12) 0) (col (σ 12) 1) (σ 3, σ 4) i).2)) (pl [33, 34, 35, 36] τ) 0 hn6 (by decide)) (by first | decide | omega) rfl rfl (Nat.le_of_ble_eq_true rfl) (Nat.le_of_ble_eq_true rfl) (Nat.le_of_ble_eq_true rfl) [33, 34, 35, 36] rfl rfl 0 rfl rfl rfl rfl rfl 101 rfl d_HB_ends_98 ?_
              exact r_iret rfl (Nat.zero_le _) (Nat.zero_le _) d_HB_ends_101 (by rw [← hQ]; exact ⟨by rw [R_ends, if_pos r_w, ewN, if_neg h79, show ν 11 1 = i by omega], ν 2 3, (planN (ν 2 3) (col (σ 12) 0) (col (σ 12) 1) (σ 3, σ 4) i).1, (planN (ν 2 3) (col (σ 12) 0) (col (σ 12) 1) (σ 3, σ 4) i).2, rfl⟩)
            · refine r_aload_n rfl 83 rfl d_HB_ends_82 ?_
              refine r_getf (v := .ref (a 33)) gf_HB_24 0 rfl rfl 86 rfl d_HB_ends_83 ?_
              refine r_callV1 (st2 := [.int (osumAll (ν 2 3) ((planN (ν 2 3) (col (σ 12) 0) (col (σ 12) 1) (σ 3, σ 4) i).2) (ν 2 3))]) (w2 := CW X a (pu ν 33 (u1 (ν 33) 3 (ν 2 3))) (u2 (u2 σ 34 (planN (ν 2 3) (col (σ 12) 0) (col (σ 12) 1) (σ 3, σ 4) i).1) 35 (planN (ν 2 3) (col (σ 12) 0) (col (σ 12) 1) (σ 3, σ 4) i).2) τ) lk_Led_total ln_HB_172 (c_Led_total X (pl [33, 34, 35, 36] a) (pl [33, 34, 35, 36] (pu ν 33 (u1 (ν 33) 3 (ν 2 3)))) (pl [33, 34, 35, 36] (u2 (u2 σ 34 (planN (ν 2 3) (col (σ 12) 0) (col (σ 12) 1) (σ 3, σ 4) i).1) 35 (planN (ν 2 3) (col (σ 12) 0) (col (σ 12) 1) (σ 3, σ 4) i).2)) (pl [33, 34, 35, 36] τ)   (hn6)) (by first | decide | omega) rfl rfl (Nat.le_of_ble_eq_true rfl) (Nat.le_of_ble_eq_true rfl) (Nat.le_of_ble_eq_true rfl) [33, 34, 35, 36] rfl rfl 0 rfl rfl rfl rfl rfl 89 rfl d_HB_ends_86 ?_
              refine r_goto 101 rfl d_HB_ends_89 ?_
              exact r_iret rfl (Nat.zero_le _) (Nat.zero_le _) d_HB_ends_101 (by rw [← hQ]; exact ⟨by rw [R_ends, if_pos r_w, ewN, if_pos h79, show ν 11 1 = i by omega], ν 2 3, (planN (ν 2 3) (col (σ 12) 0) (col (σ 12) 1) (σ 3, σ 4) i).1, (planN (ν 2 3) (col (σ 12) 0) (col (σ 12) 1) (σ 3, σ 4) i).2, rfl⟩)
          · obtain ⟨w0, p0, hw0, hp0, e0, e1⟩ := hpl.2 i (by omega)
            refine r_aload_n rfl 42 rfl d_HB_ends_41 ?_
            refine r_getf (v := .ref (a 33)) gf_HB_24 0 rfl rfl 45 rfl d_HB_ends_42 ?_
            refine r_aload_n rfl 46 rfl d_HB_ends_45 ?_
            refine r_getf (v := .ref (a 1)) gf_HB_12 0 rfl rfl 49 rfl d_HB_ends_46 ?_
            refine r_getfn (v := .ref (a 11)) gf_HB_206 1 rfl rfl 52 rfl d_HB_ends_49 ?_
            refine r_iload_n rfl 53 rfl d_HB_ends_52 ?_
            refine r_iconst (nI 0) rfl 54 rfl d_HB_ends_53 ?_
            refine r_callV1 (st2 := [.int ((σ 12) (5 * i + 0)), .ref (a 33)]) (w2 := CW X a (pu ν 33 (u1 (ν 33) 3 (ν 2 3))) (u2 (u2 σ 34 (planN (ν 2 3) (col (σ 12) 0) (col (σ 12) 1) (σ 3, σ 4) i).1) 35 (planN (ν 2 3) (col (σ 12) 0) (col (σ 12) 1) (σ 3, σ 4) i).2) τ) lk_Rws_cell ln_HB_186 (c_Rws_cell X 50 (pl [11, 12] a) (pl [11, 12] (pu ν 33 (u1 (ν 33) 3 (ν 2 3)))) (pl [11, 12] (u2 (u2 σ 34 (planN (ν 2 3) (col (σ 12) 0) (col (σ 12) 1) (σ 3, σ 4) i).1) 35 (planN (ν 2 3) (col (σ 12) 0) (col (σ 12) 1) (σ 3, σ 4) i).2)) (pl [11, 12] τ)  i 0 (by omega) (by decide)) (by first | decide | omega) rfl rfl (Nat.le_of_ble_eq_true rfl) (Nat.le_of_ble_eq_true rfl) (Nat.le_of_ble_eq_true rfl) [11, 12] rfl rfl 0 rfl rfl rfl rfl rfl 57 rfl d_HB_ends_54 ?_
            refine r_topi (nI (w0)) (e0) ?_
            refine r_aload_n rfl 58 rfl d_HB_ends_57 ?_
            refine r_getf (v := .ref (a 1)) gf_HB_12 0 rfl rfl 61 rfl d_HB_ends_58 ?_
            refine r_getfn (v := .ref (a 11)) gf_HB_206 1 rfl rfl 64 rfl d_HB_ends_61 ?_
            refine r_iload_n rfl 65 rfl d_HB_ends_64 ?_
            refine r_iconst (nI 1) rfl 66 rfl d_HB_ends_65 ?_
            refine r_callV1 (st2 := [.int ((σ 12) (5 * i + 1)), .int (nI w0), .ref (a 33)]) (w2 := CW X a (pu ν 33 (u1 (ν 33) 3 (ν 2 3))) (u2 (u2 σ 34 (planN (ν 2 3) (col (σ 12) 0) (col (σ 12) 1) (σ 3, σ 4) i).1) 35 (planN (ν 2 3) (col (σ 12) 0) (col (σ 12) 1) (σ 3, σ 4) i).2) τ) lk_Rws_cell ln_HB_186 (c_Rws_cell X 50 (pl [11, 12] a) (pl [11, 12] (pu ν 33 (u1 (ν 33) 3 (ν 2 3)))) (pl [11, 12] (u2 (u2 σ 34 (planN (ν 2 3) (col (σ 12) 0) (col (σ 12) 1) (σ 3, σ 4) i).1) 35 (planN (ν 2 3) (col (σ 12) 0) (col (σ 12) 1) (σ 3, σ 4) i).2)) (pl [11, 12] τ)  i 1 (by omega) (by decide)) (by first | decide | omega) rfl rfl (Nat.le_of_ble_eq_true rfl) (Nat.le_of_ble_eq_true rfl) (Nat.le_of_ble_eq_true rfl) [11, 12] rfl rfl 0 rfl rfl rfl rfl rfl 69 rfl d_HB_ends_66 ?_
            refine r_callV1 (st2 := []) (w2 := CW X a (pu ν 33 (u1 (ν 33) 3 (ν 2 3))) (u2 (u2 σ 34 (planS (ν 2 3) w0 p0 (planN (ν 2 3) (col (σ 12) 0) (col (σ 12) 1) (σ 3, σ 4) i)).1) 35 (planS (ν 2 3) w0 p0 (planN (ν 2 3) (col (σ 12) 0) (col (σ 12) 1) (σ 3, σ 4) i)).2) τ) lk_Led_follow ln_HB_213 (c_Led_follow X (pl [33, 34, 35, 36] a) (pl [33, 34, 35, 36] (pu ν 33 (u1 (ν 33) 3 (ν 2 3)))) (pl [33, 34, 35, 36] (u2 (u2 σ 34 (planN (ν 2 3) (col (σ 12) 0) (col (σ 12) 1) (σ 3, σ 4) i).1) 35 (planN (ν 2 3) (col (σ 12) 0) (col (σ 12) 1) (σ 3, σ 4) i).2)) (pl [33, 34, 35, 36] τ) hn6 w0 hw0 ((σ 12) (5 * i + 1)) p0 (fun z => ⟨e1 z, hp0⟩)) (by first | decide | omega) rfl rfl (Nat.le_of_ble_eq_true rfl) (Nat.le_of_ble_eq_true rfl) (Nat.le_of_ble_eq_true rfl) [33, 34, 35, 36] rfl rfl 0 rfl rfl rfl rfl rfl 72 rfl d_HB_ends_69 ?_
            have eP : planN (ν 2 3) (col (σ 12) 0) (col (σ 12) 1) (σ 3, σ 4) (i + 1) = planS (ν 2 3) w0 p0 (planN (ν 2 3) (col (σ 12) 0) (col (σ 12) 1) (σ 3, σ 4) i) := by rw [planN]; unfold col; rw [e0, cn_nI (by omega)]; exact planS_w (fun z => by rw [e1 z, cn_nI (by omega)])
            refine r_iinc (ls2 := [some (.ref (a 0)), some (.int (nI wN)), some (.int (nI (i + 1)))]) (nI (i + 1)) rfl (nI_1 _) 75 rfl d_HB_ends_72 (by decide) rfl rfl ?_
            refine r_goto 27 rfl d_HB_ends_75 ?_
            refine Runs.cast (ih2 (i + 1) (by omega) (by omega)) (rfl) rfl (by rw [eP]; try rfl)
      refine Runs.cast (L27_1 _ 0 (Nat.zero_le _) (Nat.lt_succ_self _)) (rfl) rfl (rfl)
    · have r_w : inR w (nI 0) (nI 1) = false := inR_gt (Int32.not_le.mp h6)
      refine r_iconst ((-1)) rfl 10 rfl d_HB_ends_9 ?_
      exact r_iret rfl (Nat.zero_le _) (Nat.zero_le _) d_HB_ends_10 (by rw [← hQ]; exact ⟨by simp [R_ends, r_w], ν 33 3, σ 34, σ 35, by rw [u1_self, pu_self, u2_self, u2_self]⟩)
theorem c_HB_count (X : Xn) (a : Nat → Nat) (ν : Nat → Nat → Nat) (σ : Nat → Nat → Int32) (τ : Nat → Nat → Int64)  (w : Int32) : Does X 1 M_HB_count [.ref (a 0), .int w] (CW X a ν σ τ) 0 0 (fun (vv : Option Value) (ww : va_W) => vv = some (.int (ccnt ν w)) ∧ ww = CW X a ν σ τ) := by
  generalize hQ : (fun (vv : Option Value) (ww : va_W) => vv = some (.int (ccnt ν w)) ∧ ww = CW X a ν σ τ) = Q
  refine Does.go rfl (Nat.le_of_ble_eq_true rfl) [some (.ref (a 0)), some (.int w)] 0 rfl ?_
  refine r_iload_n rfl 1 rfl d_HB_count_0 ?_
  by_cases h1_0 : w = 0
  · refine r_tableIn 44 d_HB_count_1 (by rw [h1_0]; decide) (by rw [h1_0]; decide) (by rw [h1_0]; try rfl) rfl ?_
    refine r_aload_n rfl 45 rfl d_HB_count_44 ?_
    refine r_getf (v := .ref (a 1)) gf_HB_12 0 rfl rfl 48 rfl d_HB_count_45 ?_
    refine r_getfn (v := .ref (a 2)) gf_HB_49 1 rfl rfl 51 rfl d_HB_count_48 ?_
    refine r_getfn (v := .int (nI (ν 2 3))) gf_HB_52 2 rfl rfl 54 rfl d_HB_count_51 ?_
    exact r_iret rfl (Nat.zero_le _) (Nat.zero_le _) d_HB_count_54 (by rw [← hQ]; exact ⟨by rw [ccnt, if_pos h1_0], rfl⟩)
  by_cases h1_1 : w = 1
  · refine r_tableIn 55 d_HB_count_1 (by rw [h1_1]; decide) (by rw [h1_1]; decide) (by rw [h1_1]; try rfl) rfl ?_
    refine r_aload_n rfl 56 rfl d_HB_count_55 ?_
    refine r_getf (v := .ref (a 37)) gf_HB_31 0 rfl rfl 59 rfl d_HB_count_56 ?_
    refine r_getfn (v := .int (nI (ν 37 4))) gf_HB_146 37 rfl rfl 62 rfl d_HB_count_59 ?_
    exact r_iret rfl (Nat.zero_le _) (Nat.zero_le _) d_HB_count_62 (by rw [← hQ]; exact ⟨by rw [ccnt, if_neg h1_0, if_pos h1_1], rfl⟩)
  by_cases h1_2 : w = 2
  · refine r_tableIn 63 d_HB_count_1 (by rw [h1_2]; decide) (by rw [h1_2]; decide) (by rw [h1_2]; try rfl) rfl ?_
    refine r_aload_n rfl 64 rfl d_HB_count_63 ?_
    refine r_getf (v := .ref (a 1)) gf_HB_12 0 rfl rfl 67 rfl d_HB_count_64 ?_
    refine r_getfn (v := .ref (a 9)) gf_HB_175 1 rfl rfl 70 rfl d_HB_count_67 ?_
    refine r_getfn (v := .int (nI (ν 9 1))) gf_HB_179 9 rfl rfl 73 rfl d_HB_count_70 ?_
    exact r_iret rfl (Nat.zero_le _) (Nat.zero_le _) d_HB_count_73 (by rw [← hQ]; exact ⟨by rw [ccnt, if_neg h1_0, if_neg h1_1, if_pos h1_2], rfl⟩)
  by_cases h1_3 : w = 3
  · refine r_tableIn 74 d_HB_count_1 (by rw [h1_3]; decide) (by rw [h1_3]; decide) (by rw [h1_3]; try rfl) rfl ?_
    refine r_aload_n rfl 75 rfl d_HB_count_74 ?_
    refine r_getf (v := .ref (a 1)) gf_HB_12 0 rfl rfl 78 rfl d_HB_count_75 ?_
    refine r_getfn (v := .ref (a 11)) gf_HB_206 1 rfl rfl 81 rfl d_HB_count_78 ?_
    refine r_getfn (v := .int (nI (ν 11 1))) gf_HB_179 11 rfl rfl 84 rfl d_HB_count_81 ?_
    exact r_iret rfl (Nat.zero_le _) (Nat.zero_le _) d_HB_count_84 (by rw [← hQ]; exact ⟨by rw [ccnt, if_neg h1_0, if_neg h1_1, if_neg h1_2, if_pos h1_3], rfl⟩)
  by_cases h1_4 : w = 4
  · refine r_tableIn 85 d_HB_count_1 (by rw [h1_4]; decide) (by rw [h1_4]; decide) (by rw [h1_4]; try rfl) rfl ?_
    refine r_aload_n rfl 86 rfl d_HB_count_85 ?_
    refine r_getf (v := .ref (a 1)) gf_HB_12 0 rfl rfl 89 rfl d_HB_count_86 ?_
    refine r_getfn (v := .ref (a 13)) gf_HB_217 1 rfl rfl 92 rfl d_HB_count_89 ?_
    refine r_getfn (v := .int (nI (ν 13 1))) gf_HB_179 13 rfl rfl 95 rfl d_HB_count_92 ?_
    exact r_iret rfl (Nat.zero_le _) (Nat.zero_le _) d_HB_count_95 (by rw [← hQ]; exact ⟨by rw [ccnt, if_neg h1_0, if_neg h1_1, if_neg h1_2, if_neg h1_3, if_pos h1_4], rfl⟩)
  by_cases h1_5 : w = 5
  · refine r_tableIn 96 d_HB_count_1 (by rw [h1_5]; decide) (by rw [h1_5]; decide) (by rw [h1_5]; try rfl) rfl ?_
    refine r_aload_n rfl 97 rfl d_HB_count_96 ?_
    refine r_getf (v := .ref (a 37)) gf_HB_31 0 rfl rfl 100 rfl d_HB_count_97 ?_
    refine r_getfn (v := .int (nI (ν 37 3))) gf_HB_142 37 rfl rfl 103 rfl d_HB_count_100 ?_
    exact r_iret rfl (Nat.zero_le _) (Nat.zero_le _) d_HB_count_103 (by rw [← hQ]; exact ⟨by rw [ccnt, if_neg h1_0, if_neg h1_1, if_neg h1_2, if_neg h1_3, if_neg h1_4, if_pos h1_5], rfl⟩)
  by_cases h1_6 : w = 6
  · refine r_tableIn 104 d_HB_count_1 (by rw [h1_6]; decide) (by rw [h1_6]; decide) (by rw [h1_6]; try rfl) rfl ?_
    refine r_aload_n rfl 105 rfl d_HB_count_104 ?_
    refine r_getf (v := .ref (a 68)) gf_HB_38 0 rfl rfl 108 rfl d_HB_count_105 ?_
    refine r_getfn (v := .int (nI (ν 68 1))) gf_HB_239 68 rfl rfl 111 rfl d_HB_count_108 ?_
    exact r_iret rfl (Nat.zero_le _) (Nat.zero_le _) d_HB_count_111 (by rw [← hQ]; exact ⟨by rw [ccnt, if_neg h1_0, if_neg h1_1, if_neg h1_2, if_neg h1_3, if_neg h1_4, if_neg h1_5, if_pos h1_6], rfl⟩)
  have t1_0 : ¬ (w).toInt = 0 := lv_neT h1_0 (by decide)
  have t1_1 : ¬ (w).toInt = 1 := lv_neT h1_1 (by decide)
  have t1_2 : ¬ (w).toInt = 2 := lv_neT h1_2 (by decide)
  have t1_3 : ¬ (w).toInt = 3 := lv_neT h1_3 (by decide)
  have t1_4 : ¬ (w).toInt = 4 := lv_neT h1_4 (by decide)
  have t1_5 : ¬ (w).toInt = 5 := lv_neT h1_5 (by decide)
  have t1_6 : ¬ (w).toInt = 6 := lv_neT h1_6 (by decide)
  refine r_tableOut 112 d_HB_count_1 (by omega) rfl ?_
  refine r_bipush ((-2)) rfl 114 rfl d_HB_count_112 ?_
  exact r_iret rfl (Nat.zero_le _) (Nat.zero_le _) d_HB_count_114 (by rw [← hQ]; exact ⟨by rw [ccnt, if_neg h1_0, if_neg h1_1, if_neg h1_2, if_neg h1_3, if_neg h1_4, if_neg h1_5, if_neg h1_6], rfl⟩)
theorem c_HB_trace (X : Xn) (a : Nat → Nat) (ν : Nat → Nat → Nat) (σ : Nat → Nat → Int32) (τ : Nat → Nat → Int64)  (i : Int32) (ht : ν 68 1 < 100000) : Does X 2 M_HB_trace [.ref (a 0), .int i] (CW X a ν σ τ) 0 0 (fun (vv : Option Value) (ww : va_W) => vv = some (.int (R_trace (ν 68 1) (σ 69) i)) ∧ ww = CW X a ν σ τ) := by
  generalize hQ : (fun (vv : Option Value) (ww : va_W) => vv = some (.int (R_trace (ν 68 1) (σ 69) i)) ∧ ww = CW X a ν σ τ) = Q
  refine Does.go rfl (Nat.le_of_ble_eq_true rfl) [some (.ref (a 0)), some (.int i)] 0 rfl ?_
  refine r_iload_n rfl 1 rfl d_HB_trace_0 ?_
  refine r_if_lt 4 21 rfl rfl d_HB_trace_1 (fun h1 => ?_) (fun h1 => ?_)
  · refine r_iconst ((-1)) rfl 22 rfl d_HB_trace_21 ?_
    exact r_iret rfl (Nat.zero_le _) (Nat.zero_le _) d_HB_trace_22 (by rw [← hQ]; exact ⟨by rw [R_trace, mn20_f ht (Or.inl h1)]; rfl, rfl⟩)
  · refine r_iload_n rfl 5 rfl d_HB_trace_4 ?_
    refine r_aload_n rfl 6 rfl d_HB_trace_5 ?_
    refine r_getf (v := .ref (a 68)) gf_HB_38 0 rfl rfl 9 rfl d_HB_trace_6 ?_
    refine r_getfn (v := .int (nI (ν 68 1))) gf_HB_239 68 rfl rfl 12 rfl d_HB_trace_9 ?_
    refine r_icmp_ge 15 21 rfl rfl d_HB_trace_12 (fun h12 => ?_) (fun h12 => ?_)
    · refine r_iconst ((-1)) rfl 22 rfl d_HB_trace_21 ?_
      exact r_iret rfl (Nat.zero_le _) (Nat.zero_le _) d_HB_trace_22 (by rw [← hQ]; exact ⟨by rw [R_trace, mn20_f ht (Or.inr (Or.inl h12))]; rfl, rfl⟩)
    · refine r_iload_n rfl 16 rfl d_HB_trace_15 ?_
      refine r_bipush (nI 20) rfl 18 rfl d_HB_trace_16 ?_
      refine r_icmp_lt 21 23 rfl rfl d_HB_trace_18 (fun h18 => ?_) (fun h18 => ?_)
      · obtain ⟨y, hy, hy2, rfl, hby⟩ := mn20_i ht h1 (Int32.not_le.mp h12) h18
        refine r_aload_n rfl 24 rfl d_HB_trace_23 ?_
        refine r_getf (v := .ref (a 68)) gf_HB_38 0 rfl rfl 27 rfl d_HB_trace_24 ?_
        refine r_getfn (v := .ref (a 69)) gf_HB_252 68 rfl rfl 30 rfl d_HB_trace_27 ?_
        refine r_iload_n rfl 31 rfl d_HB_trace_30 ?_
        refine r_callS1 (st2 := [.int (σ 69 y)]) (w2 := CW X a ν σ τ) lk_HB_at ln_HB_69 (c_at X _ 20 y (σ 69) (by omega) (by decide)) (by first | decide | omega) rfl rfl (Nat.le_of_ble_eq_true rfl) (Nat.le_of_ble_eq_true rfl) (Nat.le_of_ble_eq_true rfl) [69] rfl rfl rfl rfl rfl 34 rfl d_HB_trace_31 ?_
        exact r_iret rfl (Nat.zero_le _) (Nat.zero_le _) d_HB_trace_34 (by rw [← hQ]; exact ⟨by rw [R_trace, if_pos hby, cn_nI (by omega)], rfl⟩)
      · refine r_iconst ((-1)) rfl 22 rfl d_HB_trace_21 ?_
        exact r_iret rfl (Nat.zero_le _) (Nat.zero_le _) d_HB_trace_22 (by rw [← hQ]; exact ⟨by rw [R_trace, mn20_f ht (Or.inr (Or.inr (Int32.not_lt.mp h18)))]; rfl, rfl⟩)
theorem c_HB_taken (X : Xn) (a : Nat → Nat) (ν : Nat → Nat → Nat) (σ : Nat → Nat → Int32) (τ : Nat → Nat → Int64)  (p : Int32) (k : Int32) (hn6 : ν 2 3 ≤ 6) (hkd : ∀ i, i < ν 2 3 → ∃ u, u ≤ 6 ∧ σ 6 i = nI u) : Does X 2 M_HB_taken [.ref (a 0), .int p, .int k] (CW X a ν σ τ) 0 0 (fun (vv : Option Value) (ww : va_W) => vv = some (.int (R_taken (ν 2 3) (σ 6) p k)) ∧ ww = CW X a ν σ τ) := by
  generalize hQ : (fun (vv : Option Value) (ww : va_W) => vv = some (.int (R_taken (ν 2 3) (σ 6) p k)) ∧ ww = CW X a ν σ τ) = Q
  refine Does.go rfl (Nat.le_of_ble_eq_true rfl) [some (.ref (a 0)), some (.int p), some (.int k), none, none, none] 3 rfl ?_
  refine r_iload_n rfl 1 rfl d_HB_taken_0 ?_
  refine r_if_lt 4 10 rfl rfl d_HB_taken_1 (fun h1 => ?_) (fun h1 => ?_)
  · have r_k : inR k (nI 0) (nI 6) = false := inR_lt h1
    refine r_bipush ((-2)) rfl 12 rfl d_HB_taken_10 ?_
    exact r_iret rfl (Nat.zero_le _) (Nat.zero_le _) d_HB_taken_12 (by rw [← hQ]; exact ⟨by simp [R_taken, r_k], rfl⟩)
  · refine r_iload_n rfl 5 rfl d_HB_taken_4 ?_
    refine r_bipush (nI 7) rfl 7 rfl d_HB_taken_5 ?_
    refine r_icmp_lt 10 13 rfl rfl d_HB_taken_7 (fun h7 => ?_) (fun h7 => ?_)
    · have r_k : inR k (nI 0) (nI 6) = true := inR_l1 (by decide) h1 h7
      obtain ⟨kN, hkN, rfl⟩ := inR_t (by decide) r_k
      have ekN : cn (nI kN) = kN := cn_nI (by omega)
      refine r_aload_n rfl 14 rfl d_HB_taken_13 ?_
      refine r_iload_n rfl 15 rfl d_HB_taken_14 ?_
      refine r_callVA1 (st2 := [.int (bI (isB (ν 2 3) p))]) (w2 := CW X a ν σ τ) lk_HB_isTrader ln_HB_60 (c_HB_isTrader X a ν σ τ  p (hn6)) (by first | decide | omega) rfl rfl (Nat.le_of_ble_eq_true rfl) (Nat.le_of_ble_eq_true rfl) (Nat.le_of_ble_eq_true rfl) 0 rfl rfl rfl rfl 18 rfl d_HB_taken_15 ?_
      refine r_if_neB 21 24 rfl rfl d_HB_taken_18 (fun h18 => ?_) (fun h18 => ?_)
      · obtain ⟨pN, hpN, rfl⟩ := isB_t hn6 h18
        have epN : cn (nI pN) = pN := cn_nI (by omega)
        have bp := isB_of hn6 hpN
        refine r_aload_n rfl 25 rfl d_HB_taken_24 ?_
        refine r_getf (v := .ref (a 1)) gf_HB_12 0 rfl rfl 28 rfl d_HB_taken_25 ?_
        refine r_getfn (v := .ref (a 6)) gf_HB_65 1 rfl rfl 31 rfl d_HB_taken_28 ?_
        refine r_iload_n rfl 32 rfl d_HB_taken_31 ?_
        refine r_callS1 (st2 := [.int (σ 6 pN)]) (w2 := CW X a ν σ τ) lk_HB_at ln_HB_69 (c_at X _ 6 pN (σ 6) (by omega) (by decide)) (by first | decide | omega) rfl rfl (Nat.le_of_ble_eq_true rfl) (Nat.le_of_ble_eq_true rfl) (Nat.le_of_ble_eq_true rfl) [6] rfl rfl rfl rfl rfl 35 rfl d_HB_taken_32 ?_
        obtain ⟨u0, hu0, eu⟩ := hkd pN hpN
        refine r_topi (nI (u0)) (eu) ?_
        refine r_istore_n (ls2 := [some (.ref (a 0)), some (.int (nI pN)), some (.int (nI kN)), some (.int (nI u0)), none, none]) 36 rfl d_HB_taken_35 (by decide) rfl rfl ?_
        refine r_iload_n rfl 37 rfl d_HB_taken_36 ?_
        refine r_istore (ls2 := [some (.ref (a 0)), some (.int (nI pN)), some (.int (nI kN)), some (.int (nI u0)), some (.int (nI u0)), none]) 39 rfl d_HB_taken_37 (by decide) rfl rfl ?_
        refine r_iconst (nI 0) rfl 40 rfl d_HB_taken_39 ?_
        refine r_istore (ls2 := [some (.ref (a 0)), some (.int (nI pN)), some (.int (nI kN)), some (.int (nI u0)), some (.int (nI u0)), some (.int (nI 0))]) 42 rfl d_HB_taken_40 (by decide) rfl rfl ?_
        have L42_1 : ∀ (f : Nat) (z : Int32) (i : Nat), (i ≤ 7) → ((z = -1 ∧ cls u0 kN = false) ∨ ∃ u, u ≤ 6 ∧ u + i ≤ 6 ∧ z = nI u ∧ cls u kN = cls u0 kN) → 7 - i < f → Runs X 2 M_HB_taken 0 0 Q 42 [some (.ref (a 0)), some (.int (nI pN)), some (.int (nI kN)), some (.int (nI u0)), some (.int z), some (.int (nI i))] [] 0 0 (CW X a ν σ τ) := by
          intro f
          induction f with
          | zero => intro z i hi hz hmu; exact absurd hmu (Nat.not_lt_zero _)
          | succ f ih2 =>
            intro z i hi hz hmu
            refine r_iload rfl 44 rfl d_HB_taken_42 ?_
            refine r_bipush (nI 7) rfl 46 rfl d_HB_taken_44 ?_
            refine r_icmp_geN i 7 (by omega) (by omega) 49 78 rfl rfl d_HB_taken_46 (fun h46 => ?_) (fun h46 => ?_)
            · have hcl : cls u0 kN = false := hz.elim (fun z0 => z0.2) (fun ⟨u, hu, hi2, _, _⟩ => by omega)
              refine r_bipush ((-12)) rfl 80 rfl d_HB_taken_78 ?_
              exact r_iret rfl (Nat.zero_le _) (Nat.zero_le _) d_HB_taken_80 (by rw [← hQ]; exact ⟨by rw [R_taken, if_pos r_k, if_pos bp, ekN, epN, eu, cn_nI (by omega), if_neg (by rw [hcl]; decide)], rfl⟩)
            · refine r_iload rfl 51 rfl d_HB_taken_49 ?_
              refine r_if_lt 54 78 rfl rfl d_HB_taken_51 (fun h51 => ?_) (fun h51 => ?_)
              · have hcl : cls u0 kN = false := hz.elim (fun z0 => z0.2) (fun ⟨u, hu, _, e, _⟩ => by rw [e] at h51; exact absurd h51 (Int32.not_lt.mpr (by rw [show (0 : Int32) = nI 0 from rfl, nI_leI (by omega) (by omega)]; omega)))
                refine r_bipush ((-12)) rfl 80 rfl d_HB_taken_78 ?_
                exact r_iret rfl (Nat.zero_le _) (Nat.zero_le _) d_HB_taken_80 (by rw [← hQ]; exact ⟨by rw [R_taken, if_pos r_k, if_pos bp, ekN, epN, eu, cn_nI (by omega), if_neg (by rw [hcl]; decide)], rfl⟩)
              · obtain ⟨u, hu6, hui, rfl, hcu⟩ := hz.resolve_left (fun z0 => h51 (by rw [z0.1]; decide))
                refine r_iload rfl 56 rfl d_HB_taken_54 ?_
                refine r_iload_n rfl 57 rfl d_HB_taken_56 ?_
                refine r_icmp_neN u kN (by omega) (by omega) 60 62 rfl rfl d_HB_taken_57 (fun h57 => ?_) (fun h57 => ?_)
                · refine r_gets (v := .ref (X.2.2.2 0)) (fun A U H h => h.1) (inTB 803 (by decide +kernel) rfl) 65 rfl d_HB_taken_62 ?_
                  refine r_iload rfl 67 rfl d_HB_taken_65 ?_
                  refine r_callS1 (st2 := [.int (aboveV.getD u 0)]) (w2 := CW X a ν σ τ) lk_HB_at ln_HB_69 (c_atA X u (by omega)) (by first | decide | omega) rfl rfl (Nat.le_of_ble_eq_true rfl) (Nat.le_of_ble_eq_true rfl) (Nat.le_of_ble_eq_true rfl) [] rfl rfl rfl rfl rfl 70 rfl d_HB_taken_67 ?_
                  refine r_istore (ls2 := [some (.ref (a 0)), some (.int (nI pN)), some (.int (nI kN)), some (.int (nI u0)), some (.int (aboveV.getD u 0)), some (.int (nI i))]) 72 rfl d_HB_taken_70 (by decide) rfl rfl ?_
                  refine r_iinc (ls2 := [some (.ref (a 0)), some (.int (nI pN)), some (.int (nI kN)), some (.int (nI u0)), some (.int (aboveV.getD u 0)), some (.int (nI (i + 1)))]) (nI (i + 1)) rfl (nI_1 _) 75 rfl d_HB_taken_72 (by decide) rfl rfl ?_
                  refine r_goto 42 rfl d_HB_taken_75 ?_
                  exact ih2 (aboveV.getD u 0) (i + 1) (by omega) (tk_step hu6 hkN hui h57 hcu) (by omega)
                · refine r_iload_n rfl 61 rfl d_HB_taken_60 ?_
                  exact r_iret rfl (Nat.zero_le _) (Nat.zero_le _) d_HB_taken_61 (by rw [← hQ]; exact ⟨by rw [R_taken, if_pos r_k, if_pos bp, ekN, epN, eu, cn_nI (by omega), if_pos (by rw [← hcu, ← h57]; simp [cls])], rfl⟩)
        exact L42_1 _ (nI u0) 0 (by omega) (Or.inr ⟨u0, by omega, by omega, rfl, rfl⟩) (Nat.lt_succ_self _)
      · refine r_bipush ((-11)) rfl 23 rfl d_HB_taken_21 ?_
        exact r_iret rfl (Nat.zero_le _) (Nat.zero_le _) d_HB_taken_23 (by rw [← hQ]; exact ⟨by simp [R_taken, r_k, h18], rfl⟩)
    · have r_k : inR k (nI 0) (nI 6) = false := inR_g1 (by decide) h7
      refine r_bipush ((-2)) rfl 12 rfl d_HB_taken_10 ?_
      exact r_iret rfl (Nat.zero_le _) (Nat.zero_le _) d_HB_taken_12 (by rw [← hQ]; exact ⟨by simp [R_taken, r_k], rfl⟩)
theorem c_Scr_exchangeAt0 (X : Xn) (a : Nat → Nat) (ν : Nat → Nat → Nat) (σ : Nat → Nat → Int32) (τ : Nat → Nat → Int64)   : Does X 1 M_Scr_exchangeAt [.ref (a 37), .int (-1)] (CW X a ν σ τ) 0 0 (fun (vv : Option Value) (ww : va_W) => vv = some (.ref (a 40)) ∧ ww = CW X a ν σ τ) := by
  generalize hQ : (fun (vv : Option Value) (ww : va_W) => vv = some (.ref (a 40)) ∧ ww = CW X a ν σ τ) = Q
  refine Does.go rfl (Nat.le_of_ble_eq_true rfl) [some (.ref (a 37)), some (.int (-1)), none] 1 rfl ?_
  refine r_iload_n rfl 1 rfl d_Scr_exchangeAt_0 ?_
  refine r_if_lt_t 22 rfl d_Scr_exchangeAt_1 (by decide) ?_
  refine r_null 23 rfl d_Scr_exchangeAt_22 ?_
  refine r_astore_nN (ls2 := [some (.ref (a 37)), some (.int (-1)), some (.null)]) 24 rfl d_Scr_exchangeAt_23 (by decide) rfl rfl ?_
  refine r_aload_nN rfl 25 rfl d_Scr_exchangeAt_24 ?_
  refine r_ifnonnullN 28 rfl d_Scr_exchangeAt_25 ?_
  refine r_aload_n rfl 29 rfl d_Scr_exchangeAt_28 ?_
  refine r_getf (v := .ref (a 40)) gf_Scr_22 37 rfl rfl 32 rfl d_Scr_exchangeAt_29 ?_
  refine r_goto 36 rfl d_Scr_exchangeAt_32 ?_
  exact r_aret rfl (Or.inr ⟨_, rfl⟩) (Nat.zero_le _) (Nat.zero_le _) d_Scr_exchangeAt_36 (by rw [← hQ]; exact ⟨rfl, rfl⟩)
theorem c_Scr_exchangeAt1 (X : Xn) (a : Nat → Nat) (ν : Nat → Nat → Nat) (σ : Nat → Nat → Int32) (τ : Nat → Nat → Int64)  (e : Nat) (he : e < 6) : Does X 1 M_Scr_exchangeAt [.ref (a 37), .int (nI e)] (CW X a ν σ τ) 0 0 (fun (vv : Option Value) (ww : va_W) => vv = some (.ref (a (44 + 4 * e))) ∧ ww = CW X a ν σ τ) := by
  generalize hQ : (fun (vv : Option Value) (ww : va_W) => vv = some (.ref (a (44 + 4 * e))) ∧ ww = CW X a ν σ τ) = Q
  refine Does.go rfl (Nat.le_of_ble_eq_true rfl) [some (.ref (a 37)), some (.int (nI e)), none] 1 rfl ?_
  refine r_iload_n rfl 1 rfl d_Scr_exchangeAt_0 ?_
  refine r_if_ltN_f e (by omega) 4 rfl 22 rfl d_Scr_exchangeAt_1 (by omega) ?_
  refine r_iload_n rfl 5 rfl d_Scr_exchangeAt_4 ?_
  refine r_aload_n rfl 6 rfl d_Scr_exchangeAt_5 ?_
  refine r_getf (v := .ref (a 39)) gf_Scr_17 37 rfl rfl 9 rfl d_Scr_exchangeAt_6 ?_
  refine r_alenE 39 rfl 10 rfl d_Scr_exchangeAt_9 ?_
  refine r_icmp_geN_f e 6 (by omega) (by omega) 13 rfl 22 rfl d_Scr_exchangeAt_10 (by omega) ?_
  refine r_aload_n rfl 14 rfl d_Scr_exchangeAt_13 ?_
  refine r_getf (v := .ref (a 39)) gf_Scr_17 37 rfl rfl 17 rfl d_Scr_exchangeAt_14 ?_
  refine r_iload_n rfl 18 rfl d_Scr_exchangeAt_17 ?_
  refine r_aaldE 39 rfl e (a (44 + 4 * e)) rfl (by omega) (by omega) (rfl) 19 rfl d_Scr_exchangeAt_18 ?_
  refine r_goto 23 rfl d_Scr_exchangeAt_19 ?_
  refine r_astore_n (ls2 := [some (.ref (a 37)), some (.int (nI e)), some (.ref (a (44 + 4 * e)))]) 24 rfl d_Scr_exchangeAt_23 (by decide) rfl rfl ?_
  refine r_aload_n rfl 25 rfl d_Scr_exchangeAt_24 ?_
  refine r_ifnonnull 35 rfl d_Scr_exchangeAt_25 ?_
  refine r_aload_n rfl 36 rfl d_Scr_exchangeAt_35 ?_
  exact r_aret rfl (Or.inr ⟨_, rfl⟩) (Nat.zero_le _) (Nat.zero_le _) d_Scr_exchangeAt_36 (by rw [← hQ]; exact ⟨rfl, rfl⟩)
theorem c_Scr_exchangeAt (X : Xn) (a : Nat → Nat) (ν : Nat → Nat → Nat) (σ : Nat → Nat → Int32) (τ : Nat → Nat → Int64) (h : Nat) (hh : h ≤ 6) : Does X 1 M_Scr_exchangeAt [.ref (a 37), .int (nI h - 1)] (CW X a ν σ τ) 0 0 (fun (vv : Option Value) (ww : va_W) => vv = some (.ref (a (40 + 4 * h))) ∧ ww = CW X a ν σ τ) := by
  by_cases h0 : h = 0
  · subst h0; rw [show nI 0 - 1 = -1 from by decide]; exact c_Scr_exchangeAt0 X a ν σ τ
  · obtain ⟨e, rfl⟩ : ∃ e, h = e + 1 := ⟨h - 1, by omega⟩
    rw [show nI (e + 1) - 1 = nI e from pk_sub (show 1 ≤ e + 1 by omega), show 40 + 4 * (e + 1) = 44 + 4 * e by omega]
    exact c_Scr_exchangeAt1 X a ν σ τ e (by omega)
theorem c_HB_held (X : Xn) (a : Nat → Nat) (ν : Nat → Nat → Nat) (σ : Nat → Nat → Int32) (τ : Nat → Nat → Int64)   (hh : ν 1 10 ≤ 6) : Does X 2 M_HB_held [.ref (a 0)] (CW X a ν σ τ) 0 0 (fun (vv : Option Value) (ww : va_W) => vv = some (.ref (a (40 + 4 * ν 1 10))) ∧ ww = CW X a ν σ τ) := by
  generalize hQ : (fun (vv : Option Value) (ww : va_W) => vv = some (.ref (a (40 + 4 * ν 1 10))) ∧ ww = CW X a ν σ τ) = Q
  refine Does.go rfl (Nat.le_of_ble_eq_true rfl) [some (.ref (a 0))] 0 rfl ?_
  refine r_aload_n rfl 1 rfl d_HB_held_0 ?_
  refine r_getf (v := .ref (a 37)) gf_HB_31 0 rfl rfl 4 rfl d_HB_held_1 ?_
  refine r_aload_n rfl 5 rfl d_HB_held_4 ?_
  refine r_getf (v := .ref (a 1)) gf_HB_12 0 rfl rfl 8 rfl d_HB_held_5 ?_
  refine r_getfn (v := .int (nI (ν 1 10) - 1)) gf_HB_152 1 rfl rfl 11 rfl d_HB_held_8 ?_
  refine r_callVA1 (st2 := [.ref (a (40 + 4 * (ν 1 10)))]) (w2 := CW X a ν σ τ) lk_Scr_exchangeAt ln_HB_284 (c_Scr_exchangeAt X a ν σ τ (ν 1 10) hh) (by first | decide | omega) rfl rfl (Nat.le_of_ble_eq_true rfl) (Nat.le_of_ble_eq_true rfl) (Nat.le_of_ble_eq_true rfl) 37 rfl rfl rfl rfl 14 rfl d_HB_held_11 ?_
  exact r_aret rfl (Or.inr ⟨_, rfl⟩) (Nat.zero_le _) (Nat.zero_le _) d_HB_held_14 (by rw [← hQ]; exact ⟨rfl, rfl⟩)
