def M_Mod_rescue : XM := (⟨"HandshakeBindsModel", "rescue", "()I"⟩, prog_11_method_40_code, 3, (some .int))
theorem d_Mod_rescue_0 : decode M_Mod_rescue.2.1 0 = .ok (.iconst (-1), 1) := by decide +kernel
theorem d_Mod_rescue_1 : decode M_Mod_rescue.2.1 1 = .ok (.istore_n 1, 1) := by decide +kernel
theorem d_Mod_rescue_2 : decode M_Mod_rescue.2.1 2 = .ok (.iconst 0, 1) := by decide +kernel
theorem d_Mod_rescue_3 : decode M_Mod_rescue.2.1 3 = .ok (.istore_n 2, 1) := by decide +kernel
theorem d_Mod_rescue_4 : decode M_Mod_rescue.2.1 4 = .ok (.iload_n 2, 1) := by decide +kernel
theorem d_Mod_rescue_5 : decode M_Mod_rescue.2.1 5 = .ok (.iconst 1, 1) := by decide +kernel
theorem d_Mod_rescue_6 : decode M_Mod_rescue.2.1 6 = .ok (.aload_n 0, 1) := by decide +kernel
theorem d_Mod_rescue_7 : decode M_Mod_rescue.2.1 7 = .ok (.getfield 111, 3) := by decide +kernel
theorem d_Mod_rescue_10 : decode M_Mod_rescue.2.1 10 = .ok (.ishl, 1) := by decide +kernel
theorem d_Mod_rescue_11 : decode M_Mod_rescue.2.1 11 = .ok (.if_icmp .ge 35, 3) := by decide +kernel
theorem d_Mod_rescue_46 : decode M_Mod_rescue.2.1 46 = .ok (.iload_n 1, 1) := by decide +kernel
theorem d_Mod_rescue_47 : decode M_Mod_rescue.2.1 47 = .ok (.ireturn, 1) := by decide +kernel
theorem d_Mod_rescue_14 : decode M_Mod_rescue.2.1 14 = .ok (.iload_n 1, 1) := by decide +kernel
theorem d_Mod_rescue_15 : decode M_Mod_rescue.2.1 15 = .ok (.iconst (-1), 1) := by decide +kernel
theorem d_Mod_rescue_16 : decode M_Mod_rescue.2.1 16 = .ok (.if_icmp .eq 14, 3) := by decide +kernel
theorem d_Mod_rescue_30 : decode M_Mod_rescue.2.1 30 = .ok (.aload_n 0, 1) := by decide +kernel
theorem d_Mod_rescue_31 : decode M_Mod_rescue.2.1 31 = .ok (.iload_n 2, 1) := by decide +kernel
theorem d_Mod_rescue_32 : decode M_Mod_rescue.2.1 32 = .ok (.invokevirtual 267, 3) := by decide +kernel
theorem ln_Mod_267 : Cond.methodLink "HandshakeBindsModel" 267 M_Mod_saves.1 ∈ TB := inTB 1214 (by decide +kernel) rfl
theorem lk_Mod_saves : LVt M_Mod_saves 1 := ⟨⟨inTB 72 (by decide +kernel) rfl, inTB 1217 (by decide +kernel) rfl, ⟨by decide, by decide, by decide +kernel⟩, by decide⟩, inTB 1216 (by decide +kernel) rfl, inTB 45 (by decide +kernel) rfl⟩
theorem d_Mod_rescue_35 : decode M_Mod_rescue.2.1 35 = .ok (.ifCond .eq 5, 3) := by decide +kernel
theorem d_Mod_rescue_40 : decode M_Mod_rescue.2.1 40 = .ok (.iinc 2 1, 3) := by decide +kernel
theorem d_Mod_rescue_43 : decode M_Mod_rescue.2.1 43 = .ok (.goto (-39), 3) := by decide +kernel
theorem d_Mod_rescue_38 : decode M_Mod_rescue.2.1 38 = .ok (.iload_n 2, 1) := by decide +kernel
theorem d_Mod_rescue_39 : decode M_Mod_rescue.2.1 39 = .ok (.istore_n 1, 1) := by decide +kernel
theorem d_Mod_rescue_19 : decode M_Mod_rescue.2.1 19 = .ok (.iload_n 2, 1) := by decide +kernel
theorem d_Mod_rescue_20 : decode M_Mod_rescue.2.1 20 = .ok (.invokestatic 262, 3) := by decide +kernel
theorem ln_Mod_262 : Cond.methodLink "HandshakeBindsModel" 262 M_JInt_bitCount.1 ∈ TB := inTB 1208 (by decide +kernel) rfl
theorem lk_JInt_bitCount : LSt M_JInt_bitCount 1 := ⟨⟨inTB 78 (by decide +kernel) rfl, inTB 1210 (by decide +kernel) rfl, ⟨by decide, by decide, by decide +kernel⟩, by decide⟩, inTB 1209 (by decide +kernel) rfl⟩
theorem d_Mod_rescue_23 : decode M_Mod_rescue.2.1 23 = .ok (.iload_n 1, 1) := by decide +kernel
theorem d_Mod_rescue_24 : decode M_Mod_rescue.2.1 24 = .ok (.invokestatic 262, 3) := by decide +kernel
theorem d_Mod_rescue_27 : decode M_Mod_rescue.2.1 27 = .ok (.if_icmp .ge 13, 3) := by decide +kernel
def M_Mod_balances : XM := (⟨"HandshakeBindsModel", "balances", "(I)I"⟩, prog_11_method_41_code, 4, (some .int))
theorem d_Mod_balances_0 : decode M_Mod_balances.2.1 0 = .ok (.iconst 0, 1) := by decide +kernel
theorem d_Mod_balances_1 : decode M_Mod_balances.2.1 1 = .ok (.istore_n 2, 1) := by decide +kernel
theorem d_Mod_balances_2 : decode M_Mod_balances.2.1 2 = .ok (.iconst 0, 1) := by decide +kernel
theorem d_Mod_balances_3 : decode M_Mod_balances.2.1 3 = .ok (.istore_n 3, 1) := by decide +kernel
theorem d_Mod_balances_4 : decode M_Mod_balances.2.1 4 = .ok (.iload_n 3, 1) := by decide +kernel
theorem d_Mod_balances_5 : decode M_Mod_balances.2.1 5 = .ok (.aload_n 0, 1) := by decide +kernel
theorem d_Mod_balances_6 : decode M_Mod_balances.2.1 6 = .ok (.getfield 111, 3) := by decide +kernel
theorem d_Mod_balances_9 : decode M_Mod_balances.2.1 9 = .ok (.if_icmp .ge 26, 3) := by decide +kernel
theorem d_Mod_balances_35 : decode M_Mod_balances.2.1 35 = .ok (.iload_n 2, 1) := by decide +kernel
theorem d_Mod_balances_36 : decode M_Mod_balances.2.1 36 = .ok (.ireturn, 1) := by decide +kernel
theorem d_Mod_balances_12 : decode M_Mod_balances.2.1 12 = .ok (.iload_n 1, 1) := by decide +kernel
theorem d_Mod_balances_13 : decode M_Mod_balances.2.1 13 = .ok (.iload_n 3, 1) := by decide +kernel
theorem d_Mod_balances_14 : decode M_Mod_balances.2.1 14 = .ok (.ishr, 1) := by decide +kernel
theorem d_Mod_balances_15 : decode M_Mod_balances.2.1 15 = .ok (.iconst 1, 1) := by decide +kernel
theorem d_Mod_balances_16 : decode M_Mod_balances.2.1 16 = .ok (.iand, 1) := by decide +kernel
theorem d_Mod_balances_17 : decode M_Mod_balances.2.1 17 = .ok (.iconst 1, 1) := by decide +kernel
theorem d_Mod_balances_18 : decode M_Mod_balances.2.1 18 = .ok (.if_icmp .ne 11, 3) := by decide +kernel
theorem d_Mod_balances_29 : decode M_Mod_balances.2.1 29 = .ok (.iinc 3 1, 3) := by decide +kernel
theorem d_Mod_balances_32 : decode M_Mod_balances.2.1 32 = .ok (.goto (-28), 3) := by decide +kernel
theorem d_Mod_balances_21 : decode M_Mod_balances.2.1 21 = .ok (.iload_n 2, 1) := by decide +kernel
theorem d_Mod_balances_22 : decode M_Mod_balances.2.1 22 = .ok (.aload_n 0, 1) := by decide +kernel
theorem d_Mod_balances_23 : decode M_Mod_balances.2.1 23 = .ok (.iload_n 3, 1) := by decide +kernel
theorem d_Mod_balances_24 : decode M_Mod_balances.2.1 24 = .ok (.invokevirtual 131, 3) := by decide +kernel
theorem ln_Mod_131 : Cond.methodLink "HandshakeBindsModel" 131 M_Mod_balance.1 ∈ TB := inTB 1014 (by decide +kernel) rfl
theorem lk_Mod_balance : LVt M_Mod_balance 1 := ⟨⟨inTB 72 (by decide +kernel) rfl, inTB 1017 (by decide +kernel) rfl, ⟨by decide, by decide, by decide +kernel⟩, by decide⟩, inTB 1016 (by decide +kernel) rfl, inTB 23 (by decide +kernel) rfl⟩
theorem d_Mod_balances_27 : decode M_Mod_balances.2.1 27 = .ok (.iadd, 1) := by decide +kernel
theorem d_Mod_balances_28 : decode M_Mod_balances.2.1 28 = .ok (.istore_n 2, 1) := by decide +kernel
def M_Mod_payments : XM := (⟨"HandshakeBindsModel", "payments", "()I"⟩, prog_11_method_42_code, 4, (some .int))
theorem d_Mod_payments_0 : decode M_Mod_payments.2.1 0 = .ok (.aload_n 0, 1) := by decide +kernel
theorem d_Mod_payments_1 : decode M_Mod_payments.2.1 1 = .ok (.getfield 91, 3) := by decide +kernel
theorem gf_Mod_91 : GF "HandshakeBindsModel" 91 9 41 := ⟨_, _, _, rfl, by decide, i_Mod, inTB 891 (by decide +kernel) rfl⟩
theorem d_Mod_payments_4 : decode M_Mod_payments.2.1 4 = .ok (.iconst 0, 1) := by decide +kernel
theorem d_Mod_payments_5 : decode M_Mod_payments.2.1 5 = .ok (.iconst 0, 1) := by decide +kernel
theorem d_Mod_payments_6 : decode M_Mod_payments.2.1 6 = .ok (.iastore, 1) := by decide +kernel
theorem d_Mod_payments_7 : decode M_Mod_payments.2.1 7 = .ok (.iconst 1, 1) := by decide +kernel
theorem d_Mod_payments_8 : decode M_Mod_payments.2.1 8 = .ok (.istore_n 1, 1) := by decide +kernel
theorem d_Mod_payments_9 : decode M_Mod_payments.2.1 9 = .ok (.iload_n 1, 1) := by decide +kernel
theorem d_Mod_payments_10 : decode M_Mod_payments.2.1 10 = .ok (.iconst 1, 1) := by decide +kernel
theorem d_Mod_payments_11 : decode M_Mod_payments.2.1 11 = .ok (.aload_n 0, 1) := by decide +kernel
theorem d_Mod_payments_12 : decode M_Mod_payments.2.1 12 = .ok (.getfield 111, 3) := by decide +kernel
theorem d_Mod_payments_15 : decode M_Mod_payments.2.1 15 = .ok (.ishl, 1) := by decide +kernel
theorem d_Mod_payments_16 : decode M_Mod_payments.2.1 16 = .ok (.if_icmp .ge 87, 3) := by decide +kernel
theorem d_Mod_payments_103 : decode M_Mod_payments.2.1 103 = .ok (.aload_n 0, 1) := by decide +kernel
theorem d_Mod_payments_104 : decode M_Mod_payments.2.1 104 = .ok (.getfield 111, 3) := by decide +kernel
theorem d_Mod_payments_107 : decode M_Mod_payments.2.1 107 = .ok (.aload_n 0, 1) := by decide +kernel
theorem d_Mod_payments_108 : decode M_Mod_payments.2.1 108 = .ok (.getfield 91, 3) := by decide +kernel
theorem d_Mod_payments_111 : decode M_Mod_payments.2.1 111 = .ok (.iconst 1, 1) := by decide +kernel
theorem d_Mod_payments_112 : decode M_Mod_payments.2.1 112 = .ok (.aload_n 0, 1) := by decide +kernel
theorem d_Mod_payments_113 : decode M_Mod_payments.2.1 113 = .ok (.getfield 111, 3) := by decide +kernel
theorem d_Mod_payments_116 : decode M_Mod_payments.2.1 116 = .ok (.ishl, 1) := by decide +kernel
theorem d_Mod_payments_117 : decode M_Mod_payments.2.1 117 = .ok (.iconst 1, 1) := by decide +kernel
theorem d_Mod_payments_118 : decode M_Mod_payments.2.1 118 = .ok (.isub, 1) := by decide +kernel
theorem d_Mod_payments_119 : decode M_Mod_payments.2.1 119 = .ok (.iaload, 1) := by decide +kernel
theorem d_Mod_payments_120 : decode M_Mod_payments.2.1 120 = .ok (.isub, 1) := by decide +kernel
theorem d_Mod_payments_121 : decode M_Mod_payments.2.1 121 = .ok (.ireturn, 1) := by decide +kernel
theorem d_Mod_payments_19 : decode M_Mod_payments.2.1 19 = .ok (.iload_n 1, 1) := by decide +kernel
theorem d_Mod_payments_20 : decode M_Mod_payments.2.1 20 = .ok (.iload_n 1, 1) := by decide +kernel
theorem d_Mod_payments_21 : decode M_Mod_payments.2.1 21 = .ok (.ineg, 1) := by decide +kernel
theorem d_Mod_payments_22 : decode M_Mod_payments.2.1 22 = .ok (.iand, 1) := by decide +kernel
theorem d_Mod_payments_23 : decode M_Mod_payments.2.1 23 = .ok (.istore_n 2, 1) := by decide +kernel
theorem d_Mod_payments_24 : decode M_Mod_payments.2.1 24 = .ok (.aload_n 0, 1) := by decide +kernel
theorem d_Mod_payments_25 : decode M_Mod_payments.2.1 25 = .ok (.getfield 91, 3) := by decide +kernel
theorem d_Mod_payments_28 : decode M_Mod_payments.2.1 28 = .ok (.iload_n 1, 1) := by decide +kernel
theorem d_Mod_payments_29 : decode M_Mod_payments.2.1 29 = .ok (.bipush (-99), 2) := by decide +kernel
theorem d_Mod_payments_31 : decode M_Mod_payments.2.1 31 = .ok (.iastore, 1) := by decide +kernel
theorem d_Mod_payments_32 : decode M_Mod_payments.2.1 32 = .ok (.iconst 1, 1) := by decide +kernel
theorem d_Mod_payments_33 : decode M_Mod_payments.2.1 33 = .ok (.istore_n 3, 1) := by decide +kernel
theorem d_Mod_payments_34 : decode M_Mod_payments.2.1 34 = .ok (.iload_n 3, 1) := by decide +kernel
theorem d_Mod_payments_35 : decode M_Mod_payments.2.1 35 = .ok (.iload_n 1, 1) := by decide +kernel
theorem d_Mod_payments_36 : decode M_Mod_payments.2.1 36 = .ok (.if_icmp .gt 61, 3) := by decide +kernel
theorem d_Mod_payments_97 : decode M_Mod_payments.2.1 97 = .ok (.iinc 1 1, 3) := by decide +kernel
theorem d_Mod_payments_100 : decode M_Mod_payments.2.1 100 = .ok (.goto (-91), 3) := by decide +kernel
theorem d_Mod_payments_39 : decode M_Mod_payments.2.1 39 = .ok (.iload_n 3, 1) := by decide +kernel
theorem d_Mod_payments_40 : decode M_Mod_payments.2.1 40 = .ok (.iload_n 1, 1) := by decide +kernel
theorem d_Mod_payments_41 : decode M_Mod_payments.2.1 41 = .ok (.iconst (-1), 1) := by decide +kernel
theorem d_Mod_payments_42 : decode M_Mod_payments.2.1 42 = .ok (.ixor, 1) := by decide +kernel
theorem d_Mod_payments_43 : decode M_Mod_payments.2.1 43 = .ok (.iand, 1) := by decide +kernel
theorem d_Mod_payments_44 : decode M_Mod_payments.2.1 44 = .ok (.ifCond .ne 47, 3) := by decide +kernel
theorem d_Mod_payments_91 : decode M_Mod_payments.2.1 91 = .ok (.iinc 3 1, 3) := by decide +kernel
theorem d_Mod_payments_94 : decode M_Mod_payments.2.1 94 = .ok (.goto (-60), 3) := by decide +kernel
theorem d_Mod_payments_47 : decode M_Mod_payments.2.1 47 = .ok (.iload_n 3, 1) := by decide +kernel
theorem d_Mod_payments_48 : decode M_Mod_payments.2.1 48 = .ok (.iload_n 2, 1) := by decide +kernel
theorem d_Mod_payments_49 : decode M_Mod_payments.2.1 49 = .ok (.iand, 1) := by decide +kernel
theorem d_Mod_payments_50 : decode M_Mod_payments.2.1 50 = .ok (.ifCond .eq 41, 3) := by decide +kernel
theorem d_Mod_payments_53 : decode M_Mod_payments.2.1 53 = .ok (.aload_n 0, 1) := by decide +kernel
theorem d_Mod_payments_54 : decode M_Mod_payments.2.1 54 = .ok (.iload_n 3, 1) := by decide +kernel
theorem d_Mod_payments_55 : decode M_Mod_payments.2.1 55 = .ok (.invokevirtual 270, 3) := by decide +kernel
theorem ln_Mod_270 : Cond.methodLink "HandshakeBindsModel" 270 M_Mod_balances.1 ∈ TB := inTB 1231 (by decide +kernel) rfl
theorem lk_Mod_balances : LVt M_Mod_balances 1 := ⟨⟨inTB 72 (by decide +kernel) rfl, inTB 1234 (by decide +kernel) rfl, ⟨by decide, by decide, by decide +kernel⟩, by decide⟩, inTB 1233 (by decide +kernel) rfl, inTB 49 (by decide +kernel) rfl⟩
theorem d_Mod_payments_58 : decode M_Mod_payments.2.1 58 = .ok (.ifCond .eq 6, 3) := by decide +kernel
theorem d_Mod_payments_64 : decode M_Mod_payments.2.1 64 = .ok (.aload_n 0, 1) := by decide +kernel
theorem d_Mod_payments_65 : decode M_Mod_payments.2.1 65 = .ok (.getfield 91, 3) := by decide +kernel
theorem d_Mod_payments_68 : decode M_Mod_payments.2.1 68 = .ok (.iload_n 1, 1) := by decide +kernel
theorem d_Mod_payments_69 : decode M_Mod_payments.2.1 69 = .ok (.aload_n 0, 1) := by decide +kernel
theorem d_Mod_payments_70 : decode M_Mod_payments.2.1 70 = .ok (.getfield 91, 3) := by decide +kernel
theorem d_Mod_payments_73 : decode M_Mod_payments.2.1 73 = .ok (.iload_n 1, 1) := by decide +kernel
theorem d_Mod_payments_74 : decode M_Mod_payments.2.1 74 = .ok (.iaload, 1) := by decide +kernel
theorem d_Mod_payments_75 : decode M_Mod_payments.2.1 75 = .ok (.aload_n 0, 1) := by decide +kernel
theorem d_Mod_payments_76 : decode M_Mod_payments.2.1 76 = .ok (.getfield 91, 3) := by decide +kernel
theorem d_Mod_payments_79 : decode M_Mod_payments.2.1 79 = .ok (.iload_n 1, 1) := by decide +kernel
theorem d_Mod_payments_80 : decode M_Mod_payments.2.1 80 = .ok (.iload_n 3, 1) := by decide +kernel
theorem d_Mod_payments_81 : decode M_Mod_payments.2.1 81 = .ok (.iconst (-1), 1) := by decide +kernel
theorem d_Mod_payments_82 : decode M_Mod_payments.2.1 82 = .ok (.ixor, 1) := by decide +kernel
theorem d_Mod_payments_83 : decode M_Mod_payments.2.1 83 = .ok (.iand, 1) := by decide +kernel
theorem d_Mod_payments_84 : decode M_Mod_payments.2.1 84 = .ok (.iaload, 1) := by decide +kernel
theorem d_Mod_payments_85 : decode M_Mod_payments.2.1 85 = .ok (.iconst 1, 1) := by decide +kernel
theorem d_Mod_payments_86 : decode M_Mod_payments.2.1 86 = .ok (.iadd, 1) := by decide +kernel
theorem d_Mod_payments_87 : decode M_Mod_payments.2.1 87 = .ok (.invokestatic 273, 3) := by decide +kernel
theorem d_Mod_payments_90 : decode M_Mod_payments.2.1 90 = .ok (.iastore, 1) := by decide +kernel
theorem d_Mod_payments_61 : decode M_Mod_payments.2.1 61 = .ok (.goto 30, 3) := by decide +kernel
def M_Mod_ringFrom : XM := (⟨"HandshakeBindsModel", "ringFrom", "(IIII)I"⟩, prog_11_method_43_code, 7, (some .int))
theorem d_Mod_ringFrom_26 : decode M_Mod_ringFrom.2.1 26 = .ok (.istore 5, 2) := by decide +kernel
theorem d_Mod_ringFrom_28 : decode M_Mod_ringFrom.2.1 28 = .ok (.iload_n 1, 1) := by decide +kernel
theorem d_Mod_ringFrom_29 : decode M_Mod_ringFrom.2.1 29 = .ok (.iconst 1, 1) := by decide +kernel
theorem d_Mod_ringFrom_30 : decode M_Mod_ringFrom.2.1 30 = .ok (.iadd, 1) := by decide +kernel
theorem d_Mod_ringFrom_31 : decode M_Mod_ringFrom.2.1 31 = .ok (.istore 6, 2) := by decide +kernel
theorem d_Mod_ringFrom_33 : decode M_Mod_ringFrom.2.1 33 = .ok (.iload 6, 2) := by decide +kernel
theorem d_Mod_ringFrom_35 : decode M_Mod_ringFrom.2.1 35 = .ok (.aload_n 0, 1) := by decide +kernel
theorem d_Mod_ringFrom_36 : decode M_Mod_ringFrom.2.1 36 = .ok (.getfield 111, 3) := by decide +kernel
theorem d_Mod_ringFrom_39 : decode M_Mod_ringFrom.2.1 39 = .ok (.if_icmp .ge 57, 3) := by decide +kernel
theorem d_Mod_ringFrom_96 : decode M_Mod_ringFrom.2.1 96 = .ok (.iload 5, 2) := by decide +kernel
theorem d_Mod_ringFrom_98 : decode M_Mod_ringFrom.2.1 98 = .ok (.ireturn, 1) := by decide +kernel
theorem d_Mod_ringFrom_42 : decode M_Mod_ringFrom.2.1 42 = .ok (.iload_n 3, 1) := by decide +kernel
theorem d_Mod_ringFrom_43 : decode M_Mod_ringFrom.2.1 43 = .ok (.iload 6, 2) := by decide +kernel
theorem d_Mod_ringFrom_45 : decode M_Mod_ringFrom.2.1 45 = .ok (.ishr, 1) := by decide +kernel
theorem d_Mod_ringFrom_46 : decode M_Mod_ringFrom.2.1 46 = .ok (.iconst 1, 1) := by decide +kernel
theorem d_Mod_ringFrom_47 : decode M_Mod_ringFrom.2.1 47 = .ok (.iand, 1) := by decide +kernel
theorem d_Mod_ringFrom_48 : decode M_Mod_ringFrom.2.1 48 = .ok (.ifCond .ne 42, 3) := by decide +kernel
theorem d_Mod_ringFrom_90 : decode M_Mod_ringFrom.2.1 90 = .ok (.iinc 6 1, 3) := by decide +kernel
theorem d_Mod_ringFrom_93 : decode M_Mod_ringFrom.2.1 93 = .ok (.goto (-60), 3) := by decide +kernel
theorem d_Mod_ringFrom_51 : decode M_Mod_ringFrom.2.1 51 = .ok (.aload_n 0, 1) := by decide +kernel
theorem d_Mod_ringFrom_52 : decode M_Mod_ringFrom.2.1 52 = .ok (.getfield 24, 3) := by decide +kernel
theorem d_Mod_ringFrom_55 : decode M_Mod_ringFrom.2.1 55 = .ok (.bipush 6, 2) := by decide +kernel
theorem d_Mod_ringFrom_57 : decode M_Mod_ringFrom.2.1 57 = .ok (.iload_n 2, 1) := by decide +kernel
theorem d_Mod_ringFrom_58 : decode M_Mod_ringFrom.2.1 58 = .ok (.imul, 1) := by decide +kernel
theorem d_Mod_ringFrom_59 : decode M_Mod_ringFrom.2.1 59 = .ok (.iload 6, 2) := by decide +kernel
theorem d_Mod_ringFrom_61 : decode M_Mod_ringFrom.2.1 61 = .ok (.iadd, 1) := by decide +kernel
theorem d_Mod_ringFrom_62 : decode M_Mod_ringFrom.2.1 62 = .ok (.iaload, 1) := by decide +kernel
theorem d_Mod_ringFrom_63 : decode M_Mod_ringFrom.2.1 63 = .ok (.ifCond .le 27, 3) := by decide +kernel
theorem d_Mod_ringFrom_66 : decode M_Mod_ringFrom.2.1 66 = .ok (.iload 5, 2) := by decide +kernel
theorem d_Mod_ringFrom_68 : decode M_Mod_ringFrom.2.1 68 = .ok (.aload_n 0, 1) := by decide +kernel
theorem d_Mod_ringFrom_69 : decode M_Mod_ringFrom.2.1 69 = .ok (.iload_n 1, 1) := by decide +kernel
theorem d_Mod_ringFrom_70 : decode M_Mod_ringFrom.2.1 70 = .ok (.iload 6, 2) := by decide +kernel
theorem d_Mod_ringFrom_72 : decode M_Mod_ringFrom.2.1 72 = .ok (.iload_n 3, 1) := by decide +kernel
theorem d_Mod_ringFrom_73 : decode M_Mod_ringFrom.2.1 73 = .ok (.iconst 1, 1) := by decide +kernel
theorem d_Mod_ringFrom_74 : decode M_Mod_ringFrom.2.1 74 = .ok (.iload 6, 2) := by decide +kernel
theorem d_Mod_ringFrom_76 : decode M_Mod_ringFrom.2.1 76 = .ok (.ishl, 1) := by decide +kernel
theorem d_Mod_ringFrom_77 : decode M_Mod_ringFrom.2.1 77 = .ok (.ior, 1) := by decide +kernel
theorem d_Mod_ringFrom_78 : decode M_Mod_ringFrom.2.1 78 = .ok (.iload 4, 2) := by decide +kernel
theorem d_Mod_ringFrom_80 : decode M_Mod_ringFrom.2.1 80 = .ok (.iconst 1, 1) := by decide +kernel
theorem d_Mod_ringFrom_81 : decode M_Mod_ringFrom.2.1 81 = .ok (.iadd, 1) := by decide +kernel
theorem d_Mod_ringFrom_82 : decode M_Mod_ringFrom.2.1 82 = .ok (.invokevirtual 276, 3) := by decide +kernel
theorem ln_Mod_276 : Cond.methodLink "HandshakeBindsModel" 276 M_Mod_ringFrom.1 ∈ TB := inTB 1240 (by decide +kernel) rfl
theorem lk_Mod_ringFrom : LVt M_Mod_ringFrom 4 := ⟨⟨inTB 72 (by decide +kernel) rfl, inTB 1243 (by decide +kernel) rfl, ⟨by decide, by decide, by decide +kernel⟩, by decide⟩, inTB 1242 (by decide +kernel) rfl, inTB 51 (by decide +kernel) rfl⟩
theorem d_Mod_ringFrom_85 : decode M_Mod_ringFrom.2.1 85 = .ok (.invokestatic 273, 3) := by decide +kernel
theorem d_Mod_ringFrom_88 : decode M_Mod_ringFrom.2.1 88 = .ok (.istore 5, 2) := by decide +kernel
theorem d_Mod_ringFrom_0 : decode M_Mod_ringFrom.2.1 0 = .ok (.iload 4, 2) := by decide +kernel
theorem d_Mod_ringFrom_2 : decode M_Mod_ringFrom.2.1 2 = .ok (.iconst 1, 1) := by decide +kernel
theorem d_Mod_ringFrom_3 : decode M_Mod_ringFrom.2.1 3 = .ok (.if_icmp .le 22, 3) := by decide +kernel
theorem d_Mod_ringFrom_25 : decode M_Mod_ringFrom.2.1 25 = .ok (.iconst 0, 1) := by decide +kernel
theorem d_Mod_ringFrom_6 : decode M_Mod_ringFrom.2.1 6 = .ok (.aload_n 0, 1) := by decide +kernel
theorem d_Mod_ringFrom_7 : decode M_Mod_ringFrom.2.1 7 = .ok (.getfield 24, 3) := by decide +kernel
theorem d_Mod_ringFrom_10 : decode M_Mod_ringFrom.2.1 10 = .ok (.bipush 6, 2) := by decide +kernel
theorem d_Mod_ringFrom_12 : decode M_Mod_ringFrom.2.1 12 = .ok (.iload_n 2, 1) := by decide +kernel
theorem d_Mod_ringFrom_13 : decode M_Mod_ringFrom.2.1 13 = .ok (.imul, 1) := by decide +kernel
theorem d_Mod_ringFrom_14 : decode M_Mod_ringFrom.2.1 14 = .ok (.iload_n 1, 1) := by decide +kernel
theorem d_Mod_ringFrom_15 : decode M_Mod_ringFrom.2.1 15 = .ok (.iadd, 1) := by decide +kernel
theorem d_Mod_ringFrom_16 : decode M_Mod_ringFrom.2.1 16 = .ok (.iaload, 1) := by decide +kernel
theorem d_Mod_ringFrom_17 : decode M_Mod_ringFrom.2.1 17 = .ok (.ifCond .le 8, 3) := by decide +kernel
theorem d_Mod_ringFrom_20 : decode M_Mod_ringFrom.2.1 20 = .ok (.iload 4, 2) := by decide +kernel
theorem d_Mod_ringFrom_22 : decode M_Mod_ringFrom.2.1 22 = .ok (.goto 4, 3) := by decide +kernel
theorem c_Mod_rescue (X : Xn) (a ν : Nat → Nat) (σ : Nat → Nat → Int32) (τ : Nat → Int64) (hn6 : ν 0 ≤ 6) : Does X 4 M_Mod_rescue [.ref (a 0)] (MW X a ν σ τ) 0 0 (fun (vv : Option Value) (ww : va_W) => ∃ t : Nat → Int32, vv = some (.int (rs (resc (ν 0) (σ 3) (σ 5) (1 <<< ν 0)))) ∧ ww = MW X a ν (u2 σ 40 t) τ) := by
  generalize hQ : (fun (vv : Option Value) (ww : va_W) => ∃ t : Nat → Int32, vv = some (.int (rs (resc (ν 0) (σ 3) (σ 5) (1 <<< ν 0)))) ∧ ww = MW X a ν (u2 σ 40 t) τ) = Q
  refine Does.go rfl (Nat.le_of_ble_eq_true rfl) [some (.ref (a 0)), none, none] 2 rfl ?_
  have hK : 1 <<< ν 0 ≤ 64 := shl_lt hn6
  refine r_iconst ((-1)) rfl 1 rfl d_Mod_rescue_0 ?_
  refine r_istore_n (ls2 := [some (.ref (a 0)), some (.int (-1)), none]) 2 rfl d_Mod_rescue_1 (by decide) rfl rfl ?_
  refine r_iconst (nI 0) rfl 3 rfl d_Mod_rescue_2 ?_
  refine r_istore_n (ls2 := [some (.ref (a 0)), some (.int (-1)), some (.int (nI 0))]) 4 rfl d_Mod_rescue_3 (by decide) rfl rfl ?_
  have L4_1 : ∀ (f : Nat) (k : Nat) (o : Option Nat) (t : Nat → Int32), (k ≤ 1 <<< ν 0) → (o = resc (ν 0) (σ 3) (σ 5) k) → (∀ z : Nat, o = some z → z < 64) → 1 <<< ν 0 - k < f → Runs X 4 M_Mod_rescue 0 0 Q 4 [some (.ref (a 0)), some (.int (rs o)), some (.int (nI k))] [] 0 0 (MW X a ν (u2 σ 40 (t)) τ) := by
    intro f
    induction f with
    | zero => intro k o t hk ho hf hmu; exact absurd hmu (Nat.not_lt_zero _)
    | succ f ih2 =>
      intro k o t hk ho hf hmu
      refine r_iload_n rfl 5 rfl d_Mod_rescue_4 ?_
      refine r_iconst (nI 1) rfl 6 rfl d_Mod_rescue_5 ?_
      refine r_aload_n rfl 7 rfl d_Mod_rescue_6 ?_
      refine r_getf (v := .int (nI (ν 0))) gf_Mod_111 0 rfl rfl 10 rfl d_Mod_rescue_7 ?_
      refine r_ishl 11 rfl d_Mod_rescue_10 ?_
      refine r_topi (nI (1 <<< (ν 0))) (nI_shl (by omega) (one_shl (by omega))) ?_
      refine r_icmp_geN k (1 <<< (ν 0)) (by omega) (shl_lt31 (by omega)) 14 46 rfl rfl d_Mod_rescue_11 (fun h11 => ?_) (fun h11 => ?_)
      · refine r_iload_n rfl 47 rfl d_Mod_rescue_46 ?_
        exact r_iret rfl (Nat.zero_le _) (Nat.zero_le _) d_Mod_rescue_47 (by rw [← hQ]; exact ⟨t, by rw [ho, show k = 1 <<< ν 0 by omega], rfl⟩)
      · refine r_iload_n rfl 15 rfl d_Mod_rescue_14 ?_
        refine r_iconst ((-1)) rfl 16 rfl d_Mod_rescue_15 ?_
        refine r_icmp_eq 19 30 rfl rfl d_Mod_rescue_16 (fun h16 => ?_) (fun h16 => ?_)
        · obtain rfl := rs_none hf h16
          refine r_aload_n rfl 31 rfl d_Mod_rescue_30 ?_
          refine r_iload_n rfl 32 rfl d_Mod_rescue_31 ?_
          refine r_callVA1 (st2 := [.int (bI (sv (ν 0) (σ 3) (σ 5) k))]) (w2 := MW X a ν (u2 (u2 σ 40 (t)) 40 (keepF ν (u2 σ 40 (t)) (t))) τ) lk_Mod_saves ln_Mod_267 (c_Mod_saves X a ν (u2 σ 40 (t)) τ hn6 k (by first | assumption | omega)) (by first | decide | omega) rfl rfl (Nat.le_of_ble_eq_true rfl) (Nat.le_of_ble_eq_true rfl) (Nat.le_of_ble_eq_true rfl) 0 rfl rfl rfl rfl 35 rfl d_Mod_rescue_32 ?_
          refine r_if_eqB 38 40 rfl rfl d_Mod_rescue_35 (fun h35 => ?_) (fun h35 => ?_)
          · refine r_iinc (ls2 := [some (.ref (a 0)), some (.int (rs none)), some (.int (nI (k + 1)))]) (nI (k + 1)) rfl (nI_1 _) 43 rfl d_Mod_rescue_40 (by decide) rfl rfl ?_
            refine r_goto 4 rfl d_Mod_rescue_43 ?_
            refine Runs.cast (ih2 (k + 1) none (keepF ν (u2 σ 40 (t)) (t)) (by omega) (by simp [resc, ← ho, h35]) (fun z hz => by cases hz) (by omega)) (rfl) rfl (by rw [u2_u2]; try rfl)
          · refine r_iload_n rfl 39 rfl d_Mod_rescue_38 ?_
            refine r_istore_n (ls2 := [some (.ref (a 0)), some (.int (nI k)), some (.int (nI k))]) 40 rfl d_Mod_rescue_39 (by decide) rfl rfl ?_
            refine r_iinc (ls2 := [some (.ref (a 0)), some (.int (nI k)), some (.int (nI (k + 1)))]) (nI (k + 1)) rfl (nI_1 _) 43 rfl d_Mod_rescue_40 (by decide) rfl rfl ?_
            refine r_goto 4 rfl d_Mod_rescue_43 ?_
            refine Runs.cast (ih2 (k + 1) (some k) (keepF ν (u2 σ 40 (t)) (t)) (by omega) (by simp [resc, ← ho, h35]) (fun z hz => by cases hz; omega) (by omega)) (rfl) rfl (by rw [u2_u2]; try rfl)
        · obtain ⟨f0, rfl⟩ := rs_some h16
          have hf0 := hf f0 rfl
          have hpk := popc_le k
          have hpf := popc_le f0
          refine r_iload_n rfl 20 rfl d_Mod_rescue_19 ?_
          refine r_callS1 (st2 := [.int (nI (popc k))]) (w2 := MW X a ν (u2 σ 40 (t)) τ) lk_JInt_bitCount ln_Mod_262 (c_JInt_bitCount X k (by first | assumption | omega)) (by first | decide | omega) rfl rfl (Nat.le_of_ble_eq_true rfl) (Nat.le_of_ble_eq_true rfl) (Nat.le_of_ble_eq_true rfl) [] rfl rfl rfl rfl rfl 23 rfl d_Mod_rescue_20 ?_
          refine r_iload_n rfl 24 rfl d_Mod_rescue_23 ?_
          refine r_topi (nI f0) rfl ?_
          refine r_callS1 (st2 := [.int (nI (popc f0)), .int (nI (popc k))]) (w2 := MW X a ν (u2 σ 40 (t)) τ) lk_JInt_bitCount ln_Mod_262 (c_JInt_bitCount X f0 (by first | assumption | omega)) (by first | decide | omega) rfl rfl (Nat.le_of_ble_eq_true rfl) (Nat.le_of_ble_eq_true rfl) (Nat.le_of_ble_eq_true rfl) [] rfl rfl rfl rfl rfl 27 rfl d_Mod_rescue_24 ?_
          refine r_icmp_geN (popc k) (popc f0) (by omega) (by omega) 30 40 rfl rfl d_Mod_rescue_27 (fun h27 => ?_) (fun h27 => ?_)
          · refine r_iinc (ls2 := [some (.ref (a 0)), some (.int (rs (some f0))), some (.int (nI (k + 1)))]) (nI (k + 1)) rfl (nI_1 _) 43 rfl d_Mod_rescue_40 (by decide) rfl rfl ?_
            refine r_goto 4 rfl d_Mod_rescue_43 ?_
            exact ih2 (k + 1) (some f0) (t) (by omega) (by simp [resc, ← ho, Nat.not_lt.mpr h27]) (hf) (by omega)
          · refine r_aload_n rfl 31 rfl d_Mod_rescue_30 ?_
            refine r_iload_n rfl 32 rfl d_Mod_rescue_31 ?_
            refine r_callVA1 (st2 := [.int (bI (sv (ν 0) (σ 3) (σ 5) k))]) (w2 := MW X a ν (u2 (u2 σ 40 (t)) 40 (keepF ν (u2 σ 40 (t)) (t))) τ) lk_Mod_saves ln_Mod_267 (c_Mod_saves X a ν (u2 σ 40 (t)) τ hn6 k (by first | assumption | omega)) (by first | decide | omega) rfl rfl (Nat.le_of_ble_eq_true rfl) (Nat.le_of_ble_eq_true rfl) (Nat.le_of_ble_eq_true rfl) 0 rfl rfl rfl rfl 35 rfl d_Mod_rescue_32 ?_
            refine r_if_eqB 38 40 rfl rfl d_Mod_rescue_35 (fun h35 => ?_) (fun h35 => ?_)
            · refine r_iinc (ls2 := [some (.ref (a 0)), some (.int (rs (some f0))), some (.int (nI (k + 1)))]) (nI (k + 1)) rfl (nI_1 _) 43 rfl d_Mod_rescue_40 (by decide) rfl rfl ?_
              refine r_goto 4 rfl d_Mod_rescue_43 ?_
              refine Runs.cast (ih2 (k + 1) (some f0) (keepF ν (u2 σ 40 (t)) (t)) (by omega) (by simp [resc, ← ho, h27, h35]) (hf) (by omega)) (rfl) rfl (by rw [u2_u2]; try rfl)
            · refine r_iload_n rfl 39 rfl d_Mod_rescue_38 ?_
              refine r_istore_n (ls2 := [some (.ref (a 0)), some (.int (nI k)), some (.int (nI k))]) 40 rfl d_Mod_rescue_39 (by decide) rfl rfl ?_
              refine r_iinc (ls2 := [some (.ref (a 0)), some (.int (nI k)), some (.int (nI (k + 1)))]) (nI (k + 1)) rfl (nI_1 _) 43 rfl d_Mod_rescue_40 (by decide) rfl rfl ?_
              refine r_goto 4 rfl d_Mod_rescue_43 ?_
              refine Runs.cast (ih2 (k + 1) (some k) (keepF ν (u2 σ 40 (t)) (t)) (by omega) (by simp [resc, ← ho, h27, h35]) (fun z hz => by cases hz; omega) (by omega)) (rfl) rfl (by rw [u2_u2]; try rfl)
  refine Runs.cast (L4_1 _ 0 none (σ 40) (Nat.zero_le _) (rfl) (fun z hz => by cases hz) (Nat.lt_succ_self _)) (rfl) rfl (by rw [u2_self])
theorem c_Mod_balances (X : Xn) (a ν : Nat → Nat) (σ : Nat → Nat → Int32) (τ : Nat → Int64) (hn6 : ν 0 ≤ 6) (S : Nat) (hS : S < 64) : Does X 3 M_Mod_balances [.ref (a 0), .int (nI S)] (MW X a ν σ τ) 0 0 (fun (vv : Option Value) (ww : va_W) => vv = some (.int (bsum (ν 0) (σ 5) S (ν 0))) ∧ ww = MW X a ν σ τ) := by
  generalize hQ : (fun (vv : Option Value) (ww : va_W) => vv = some (.int (bsum (ν 0) (σ 5) S (ν 0))) ∧ ww = MW X a ν σ τ) = Q
  refine Does.go rfl (Nat.le_of_ble_eq_true rfl) [some (.ref (a 0)), some (.int (nI S)), none, none] 2 rfl ?_
  refine r_iconst (nI 0) rfl 1 rfl d_Mod_balances_0 ?_
  refine r_istore_n (ls2 := [some (.ref (a 0)), some (.int (nI S)), some (.int (nI 0)), none]) 2 rfl d_Mod_balances_1 (by decide) rfl rfl ?_
  refine r_iconst (nI 0) rfl 3 rfl d_Mod_balances_2 ?_
  refine r_istore_n (ls2 := [some (.ref (a 0)), some (.int (nI S)), some (.int (nI 0)), some (.int (nI 0))]) 4 rfl d_Mod_balances_3 (by decide) rfl rfl ?_
  have L4_1 : ∀ (f : Nat) (k : Nat), (k ≤ ν 0) → ν 0 - k < f → Runs X 3 M_Mod_balances 0 0 Q 4 [some (.ref (a 0)), some (.int (nI S)), some (.int (bsum (ν 0) (σ 5) S k)), some (.int (nI k))] [] 0 0 (MW X a ν σ τ) := by
    intro f
    induction f with
    | zero => intro k hk hmu; exact absurd hmu (Nat.not_lt_zero _)
    | succ f ih2 =>
      intro k hk hmu
      refine r_iload_n rfl 5 rfl d_Mod_balances_4 ?_
      refine r_aload_n rfl 6 rfl d_Mod_balances_5 ?_
      refine r_getf (v := .int (nI (ν 0))) gf_Mod_111 0 rfl rfl 9 rfl d_Mod_balances_6 ?_
      refine r_icmp_geN k (ν 0) (by omega) (by omega) 12 35 rfl rfl d_Mod_balances_9 (fun h9 => ?_) (fun h9 => ?_)
      · refine r_iload_n rfl 36 rfl d_Mod_balances_35 ?_
        exact r_iret rfl (Nat.zero_le _) (Nat.zero_le _) d_Mod_balances_36 (by rw [← hQ]; exact ⟨by rw [show k = ν 0 by omega], rfl⟩)
      · refine r_iload_n rfl 13 rfl d_Mod_balances_12 ?_
        refine r_iload_n rfl 14 rfl d_Mod_balances_13 ?_
        refine r_ishr 15 rfl d_Mod_balances_14 ?_
        refine r_topi (nI (S >>> k)) (nI_shr (by omega) (by omega)) ?_
        refine r_iconst (nI 1) rfl 16 rfl d_Mod_balances_15 ?_
        refine r_iand 17 rfl d_Mod_balances_16 ?_
        refine r_topi (nI ((S >>> k) &&& 1)) (nx_and _ _) ?_
        refine r_iconst (nI 1) rfl 18 rfl d_Mod_balances_17 ?_
        refine r_icmp_neN ((S >>> k) &&& 1) 1 (b_lt31 _) (by omega) 21 29 rfl rfl d_Mod_balances_18 (fun h18 => ?_) (fun h18 => ?_)
        · refine r_iinc (ls2 := [some (.ref (a 0)), some (.int (nI S)), some (.int (bsum (ν 0) (σ 5) S k)), some (.int (nI (k + 1)))]) (nI (k + 1)) rfl (nI_1 _) 32 rfl d_Mod_balances_29 (by decide) rfl rfl ?_
          refine r_goto 4 rfl d_Mod_balances_32 ?_
          refine Runs.cast (ih2 (k + 1) (by omega) (by omega)) (by first | (rw [bsum, if_pos h18]; done) | (rw [bsum, if_neg h18]; done)) rfl (rfl)
        · refine r_iload_n rfl 22 rfl d_Mod_balances_21 ?_
          refine r_aload_n rfl 23 rfl d_Mod_balances_22 ?_
          refine r_iload_n rfl 24 rfl d_Mod_balances_23 ?_
          refine r_callVA1 (st2 := [.int (bal (ν 0) (σ 5) k), .int (bsum (ν 0) (σ 5) S k)]) (w2 := MW X a ν σ τ) lk_Mod_balance ln_Mod_131 (c_Mod_balance X a ν σ τ hn6 k (by omega)) (by first | decide | omega) rfl rfl (Nat.le_of_ble_eq_true rfl) (Nat.le_of_ble_eq_true rfl) (Nat.le_of_ble_eq_true rfl) 0 rfl rfl rfl rfl 27 rfl d_Mod_balances_24 ?_
          refine r_iadd 28 rfl d_Mod_balances_27 ?_
          refine r_istore_n (ls2 := [some (.ref (a 0)), some (.int (nI S)), some (.int ((bsum (ν 0) (σ 5) S k) + (bal (ν 0) (σ 5) k))), some (.int (nI k))]) 29 rfl d_Mod_balances_28 (by decide) rfl rfl ?_
          refine r_iinc (ls2 := [some (.ref (a 0)), some (.int (nI S)), some (.int ((bsum (ν 0) (σ 5) S k) + (bal (ν 0) (σ 5) k))), some (.int (nI (k + 1)))]) (nI (k + 1)) rfl (nI_1 _) 32 rfl d_Mod_balances_29 (by decide) rfl rfl ?_
          refine r_goto 4 rfl d_Mod_balances_32 ?_
          refine Runs.cast (ih2 (k + 1) (by omega) (by omega)) (by first | (rw [bsum, if_pos h18]; done) | (rw [bsum, if_neg h18]; done)) rfl (rfl)
  exact L4_1 _ 0 (by omega) (Nat.lt_succ_self _)
theorem c_Mod_payments (X : Xn) (a ν : Nat → Nat) (σ : Nat → Nat → Int32) (τ : Nat → Int64) (hn6 : ν 0 ≤ 6) : Does X 4 M_Mod_payments [.ref (a 0)] (MW X a ν σ τ) 0 0 (fun (vv : Option Value) (ww : va_W) => ∃ t : Nat → Int32, vv = some (.int (nI (ν 0) - ptab (ν 0) (σ 5) (σ 41) (1 <<< ν 0 - 1) (1 <<< ν 0 - 1))) ∧ ww = MW X a ν (u2 σ 41 t) τ) := by
  generalize hQ : (fun (vv : Option Value) (ww : va_W) => ∃ t : Nat → Int32, vv = some (.int (nI (ν 0) - ptab (ν 0) (σ 5) (σ 41) (1 <<< ν 0 - 1) (1 <<< ν 0 - 1))) ∧ ww = MW X a ν (u2 σ 41 t) τ) = Q
  refine Does.go rfl (Nat.le_of_ble_eq_true rfl) [some (.ref (a 0)), none, none, none] 3 rfl ?_
  have hK : 1 <<< ν 0 ≤ 64 := shl_lt hn6
  have hK1 : 1 ≤ 1 <<< ν 0 := shl_pos _
  refine r_aload_n rfl 1 rfl d_Mod_payments_0 ?_
  refine r_getf (v := .ref (a 41)) gf_Mod_91 0 rfl rfl 4 rfl d_Mod_payments_1 ?_
  refine r_iconst (nI 0) rfl 5 rfl d_Mod_payments_4 ?_
  refine r_iconst (nI 0) rfl 6 rfl d_Mod_payments_5 ?_
  refine r_iast (w2 := MW X a ν (u2 σ 41 (upd (σ 41) 0 (nI 0))) τ) 27 rfl 0 rfl (by omega) (by omega) rfl 7 rfl d_Mod_payments_6 ?_
  refine r_iconst (nI 1) rfl 8 rfl d_Mod_payments_7 ?_
  refine r_istore_n (ls2 := [some (.ref (a 0)), some (.int (nI 1)), none, none]) 9 rfl d_Mod_payments_8 (by decide) rfl rfl ?_
  have L9_1 : ∀ (f : Nat) (s : Nat), (s + 1 ≤ 1 <<< ν 0) → 1 <<< ν 0 - s < f → Runs X 4 M_Mod_payments 0 0 Q 9 [some (.ref (a 0)), some (.int (nI (s + 1))), none, none] [] 0 0 (MW X a ν (u2 σ 41 (ptab (ν 0) (σ 5) (σ 41) s)) τ) := by
    intro f
    induction f with
    | zero => intro s hs hmu; exact absurd hmu (Nat.not_lt_zero _)
    | succ f ih2 =>
      intro s hs hmu
      refine r_iload_n rfl 10 rfl d_Mod_payments_9 ?_
      refine r_iconst (nI 1) rfl 11 rfl d_Mod_payments_10 ?_
      refine r_aload_n rfl 12 rfl d_Mod_payments_11 ?_
      refine r_getf (v := .int (nI (ν 0))) gf_Mod_111 0 rfl rfl 15 rfl d_Mod_payments_12 ?_
      refine r_ishl 16 rfl d_Mod_payments_15 ?_
      refine r_topi (nI (1 <<< (ν 0))) (nI_shl (by omega) (one_shl (by omega))) ?_
      refine r_icmp_geN (s + 1) (1 <<< (ν 0)) (by omega) (shl_lt31 (by omega)) 19 103 rfl rfl d_Mod_payments_16 (fun h16 => ?_) (fun h16 => ?_)
      · refine r_aload_n rfl 104 rfl d_Mod_payments_103 ?_
        refine r_getf (v := .int (nI (ν 0))) gf_Mod_111 0 rfl rfl 107 rfl d_Mod_payments_104 ?_
        refine r_aload_n rfl 108 rfl d_Mod_payments_107 ?_
        refine r_getf (v := .ref (a 41)) gf_Mod_91 0 rfl rfl 111 rfl d_Mod_payments_108 ?_
        refine r_iconst (nI 1) rfl 112 rfl d_Mod_payments_111 ?_
        refine r_aload_n rfl 113 rfl d_Mod_payments_112 ?_
        refine r_getf (v := .int (nI (ν 0))) gf_Mod_111 0 rfl rfl 116 rfl d_Mod_payments_113 ?_
        refine r_ishl 117 rfl d_Mod_payments_116 ?_
        refine r_topi (nI (1 <<< (ν 0))) (nI_shl (by omega) (one_shl (by omega))) ?_
        refine r_iconst (nI 1) rfl 118 rfl d_Mod_payments_117 ?_
        refine r_isub 119 rfl d_Mod_payments_118 ?_
        refine r_topi (nI (1 <<< ν 0 - 1)) (pk_sub hK1) ?_
        refine r_iald 27 rfl (1 <<< ν 0 - 1) rfl (by omega) (by omega) 120 rfl d_Mod_payments_119 ?_
        refine r_isub 121 rfl d_Mod_payments_120 ?_
        exact r_iret rfl (Nat.zero_le _) (Nat.zero_le _) d_Mod_payments_121 (by rw [← hQ]; exact ⟨_, by rw [show s = 1 <<< ν 0 - 1 by omega]; rfl, rfl⟩)
      · refine r_iload_n rfl 20 rfl d_Mod_payments_19 ?_
        refine r_iload_n rfl 21 rfl d_Mod_payments_20 ?_
        refine r_ineg 22 rfl d_Mod_payments_21 ?_
        refine r_iand 23 rfl d_Mod_payments_22 ?_
        refine r_topi (nI (lowb (s + 1))) (lowb_eq _ (by omega)) ?_
        refine r_istore_n (ls2 := [some (.ref (a 0)), some (.int (nI (s + 1))), some (.int (nI (lowb (s + 1)))), none]) 24 rfl d_Mod_payments_23 (by decide) rfl rfl ?_
        refine r_aload_n rfl 25 rfl d_Mod_payments_24 ?_
        refine r_getf (v := .ref (a 41)) gf_Mod_91 0 rfl rfl 28 rfl d_Mod_payments_25 ?_
        refine r_iload_n rfl 29 rfl d_Mod_payments_28 ?_
        refine r_bipush ((-99)) rfl 31 rfl d_Mod_payments_29 ?_
        refine r_iast (w2 := MW X a ν (u2 (u2 σ 41 (ptab (ν 0) (σ 5) (σ 41) s)) 41 (upd (ptab (ν 0) (σ 5) (σ 41) s) (s + 1) (-99))) τ) 27 rfl (s + 1) rfl (by omega) (by omega) rfl 32 rfl d_Mod_payments_31 ?_
        refine r_iconst (nI 1) rfl 33 rfl d_Mod_payments_32 ?_
        refine r_istore_n (ls2 := [some (.ref (a 0)), some (.int (nI (s + 1))), some (.int (nI (lowb (s + 1)))), some (.int (nI 1))]) 34 rfl d_Mod_payments_33 (by decide) rfl rfl ?_
        have L34_3 : ∀ (f : Nat) (o : Nat), (o ≤ s + 1) → s + 1 - o < f → Runs X 4 M_Mod_payments 0 0 Q 34 [some (.ref (a 0)), some (.int (nI (s + 1))), some (.int (nI (lowb (s + 1)))), some (.int (nI (o + 1)))] [] 0 0 (MW X a ν (u2 σ 41 (upd (ptab (ν 0) (σ 5) (σ 41) s) (s + 1) (pb (ν 0) (σ 5) (ptab (ν 0) (σ 5) (σ 41) s) (s + 1) o))) τ) := by
          intro f
          induction f with
          | zero => intro o ho hmu; exact absurd hmu (Nat.not_lt_zero _)
          | succ f ih4 =>
            intro o ho hmu
            refine r_iload_n rfl 35 rfl d_Mod_payments_34 ?_
            refine r_iload_n rfl 36 rfl d_Mod_payments_35 ?_
            refine r_icmp_gtN (o + 1) (s + 1) (by omega) (by omega) 39 97 rfl rfl d_Mod_payments_36 (fun h36 => ?_) (fun h36 => ?_)
            · refine r_iinc (ls2 := [some (.ref (a 0)), some (.int (nI ((s + 1) + 1))), some (.int (nI (lowb (s + 1)))), some (.int (nI (o + 1)))]) (nI ((s + 1) + 1)) rfl (nI_1 _) 100 rfl d_Mod_payments_97 (by decide) rfl rfl ?_
              refine r_goto 9 rfl d_Mod_payments_100 ?_
              refine r_forget (ls2 := [some (.ref (a 0)), some (.int (nI ((s + 1) + 1))), none, some (.int (nI (o + 1)))]) 2 rfl ?_
              refine r_forget (ls2 := [some (.ref (a 0)), some (.int (nI ((s + 1) + 1))), none, none]) 3 rfl ?_
              refine Runs.cast (ih2 (s + 1) (by omega) (by omega)) (rfl) rfl (by rw [show o = s + 1 by omega]; rfl; try rfl)
            · refine r_iload_n rfl 40 rfl d_Mod_payments_39 ?_
              refine r_iload_n rfl 41 rfl d_Mod_payments_40 ?_
              refine r_iconst ((-1)) rfl 42 rfl d_Mod_payments_41 ?_
              refine r_ixor 43 rfl d_Mod_payments_42 ?_
              refine r_iand 44 rfl d_Mod_payments_43 ?_
              refine r_topi (nI ((o + 1) &&& (63 ^^^ (s + 1)))) (and_not _ _ (by omega) (by omega)) ?_
              refine r_if_neN ((o + 1) &&& (63 ^^^ (s + 1))) (and_lt31 (by omega)) 47 91 rfl rfl d_Mod_payments_44 (fun h44 => ?_) (fun h44 => ?_)
              · refine r_iinc (ls2 := [some (.ref (a 0)), some (.int (nI (s + 1))), some (.int (nI (lowb (s + 1)))), some (.int (nI ((o + 1) + 1)))]) (nI ((o + 1) + 1)) rfl (nI_1 _) 94 rfl d_Mod_payments_91 (by decide) rfl rfl ?_
                refine r_goto 34 rfl d_Mod_payments_94 ?_
                refine Runs.cast (ih4 (o + 1) (by omega) (by omega)) (rfl) rfl (by rw [pb, if_neg (fun z => h44 z.1)]; try rfl)
              · refine r_iload_n rfl 48 rfl d_Mod_payments_47 ?_
                refine r_iload_n rfl 49 rfl d_Mod_payments_48 ?_
                refine r_iand 50 rfl d_Mod_payments_49 ?_
                refine r_topi (nI ((o + 1) &&& (lowb (s + 1)))) (nx_and _ _) ?_
                refine r_if_eqN ((o + 1) &&& (lowb (s + 1))) (and_lt31 (by omega)) 53 91 rfl rfl d_Mod_payments_50 (fun h50 => ?_) (fun h50 => ?_)
                · refine r_iinc (ls2 := [some (.ref (a 0)), some (.int (nI (s + 1))), some (.int (nI (lowb (s + 1)))), some (.int (nI ((o + 1) + 1)))]) (nI ((o + 1) + 1)) rfl (nI_1 _) 94 rfl d_Mod_payments_91 (by decide) rfl rfl ?_
                  refine r_goto 34 rfl d_Mod_payments_94 ?_
                  refine Runs.cast (ih4 (o + 1) (by omega) (by omega)) (rfl) rfl (by rw [pb, if_neg (fun z => z.2.1 h50)]; try rfl)
                · refine r_aload_n rfl 54 rfl d_Mod_payments_53 ?_
                  refine r_iload_n rfl 55 rfl d_Mod_payments_54 ?_
                  refine r_callVA1 (st2 := [.int (bsum (ν 0) (σ 5) (o + 1) (ν 0))]) (w2 := MW X a ν (u2 σ 41 (upd (ptab (ν 0) (σ 5) (σ 41) s) (s + 1) (pb (ν 0) (σ 5) (ptab (ν 0) (σ 5) (σ 41) s) (s + 1) o))) τ) lk_Mod_balances ln_Mod_270 (c_Mod_balances X a ν (u2 σ 41 (upd (ptab (ν 0) (σ 5) (σ 41) s) (s + 1) (pb (ν 0) (σ 5) (ptab (ν 0) (σ 5) (σ 41) s) (s + 1) o))) τ hn6 (o + 1) (by first | assumption | omega)) (by first | decide | omega) rfl rfl (Nat.le_of_ble_eq_true rfl) (Nat.le_of_ble_eq_true rfl) (Nat.le_of_ble_eq_true rfl) 0 rfl rfl rfl rfl 58 rfl d_Mod_payments_55 ?_
                  refine r_if_eq 61 64 rfl rfl d_Mod_payments_58 (fun h58 => ?_) (fun h58 => ?_)
                  · refine r_aload_n rfl 65 rfl d_Mod_payments_64 ?_
                    refine r_getf (v := .ref (a 41)) gf_Mod_91 0 rfl rfl 68 rfl d_Mod_payments_65 ?_
                    refine r_iload_n rfl 69 rfl d_Mod_payments_68 ?_
                    refine r_aload_n rfl 70 rfl d_Mod_payments_69 ?_
                    refine r_getf (v := .ref (a 41)) gf_Mod_91 0 rfl rfl 73 rfl d_Mod_payments_70 ?_
                    refine r_iload_n rfl 74 rfl d_Mod_payments_73 ?_
                    refine r_iald 27 rfl (s + 1) rfl (by omega) (by omega) 75 rfl d_Mod_payments_74 ?_
                    refine r_aload_n rfl 76 rfl d_Mod_payments_75 ?_
                    refine r_getf (v := .ref (a 41)) gf_Mod_91 0 rfl rfl 79 rfl d_Mod_payments_76 ?_
                    refine r_iload_n rfl 80 rfl d_Mod_payments_79 ?_
                    refine r_iload_n rfl 81 rfl d_Mod_payments_80 ?_
                    refine r_iconst ((-1)) rfl 82 rfl d_Mod_payments_81 ?_
                    refine r_ixor 83 rfl d_Mod_payments_82 ?_
                    refine r_iand 84 rfl d_Mod_payments_83 ?_
                    refine r_topi (nI ((s + 1) &&& (63 ^^^ (o + 1)))) (and_not _ _ (by omega) (by omega)) ?_
                    refine r_iald 27 rfl ((s + 1) &&& (63 ^^^ (o + 1))) rfl (and_lt64 (by omega)) (by omega) 85 rfl d_Mod_payments_84 ?_
                    refine r_iconst (nI 1) rfl 86 rfl d_Mod_payments_85 ?_
                    refine r_iadd 87 rfl d_Mod_payments_86 ?_
                    refine r_mmax (inTB 1235 (by decide +kernel) rfl) (by first | decide | omega) (Nat.le_of_ble_eq_true rfl) (Nat.le_of_ble_eq_true rfl) (Nat.le_of_ble_eq_true rfl) 90 rfl d_Mod_payments_87 ?_
                    refine r_iast (w2 := MW X a ν (u2 (u2 σ 41 (upd (ptab (ν 0) (σ 5) (σ 41) s) (s + 1) (pb (ν 0) (σ 5) (ptab (ν 0) (σ 5) (σ 41) s) (s + 1) o))) 41 (upd (upd (ptab (ν 0) (σ 5) (σ 41) s) (s + 1) (pb (ν 0) (σ 5) (ptab (ν 0) (σ 5) (σ 41) s) (s + 1) o)) (s + 1) (if ((upd (ptab (ν 0) (σ 5) (σ 41) s) (s + 1) (pb (ν 0) (σ 5) (ptab (ν 0) (σ 5) (σ 41) s) (s + 1) o)) (s + 1)) < (((upd (ptab (ν 0) (σ 5) (σ 41) s) (s + 1) (pb (ν 0) (σ 5) (ptab (ν 0) (σ 5) (σ 41) s) (s + 1) o)) ((s + 1) &&& (63 ^^^ (o + 1)))) + (nI 1)) then (((upd (ptab (ν 0) (σ 5) (σ 41) s) (s + 1) (pb (ν 0) (σ 5) (ptab (ν 0) (σ 5) (σ 41) s) (s + 1) o)) ((s + 1) &&& (63 ^^^ (o + 1)))) + (nI 1)) else ((upd (ptab (ν 0) (σ 5) (σ 41) s) (s + 1) (pb (ν 0) (σ 5) (ptab (ν 0) (σ 5) (σ 41) s) (s + 1) o)) (s + 1))))) τ) 27 rfl (s + 1) rfl (by omega) (by omega) rfl 91 rfl d_Mod_payments_90 ?_
                    refine r_iinc (ls2 := [some (.ref (a 0)), some (.int (nI (s + 1))), some (.int (nI (lowb (s + 1)))), some (.int (nI ((o + 1) + 1)))]) (nI ((o + 1) + 1)) rfl (nI_1 _) 94 rfl d_Mod_payments_91 (by decide) rfl rfl ?_
                    refine r_goto 34 rfl d_Mod_payments_94 ?_
                    refine Runs.cast (ih4 (o + 1) (by omega) (by omega)) (rfl) rfl (by rw [u2_u2, upd_upd, pb_t h44 h50 h58, pk_us]; try rfl)
                  · refine r_goto 91 rfl d_Mod_payments_61 ?_
                    refine r_iinc (ls2 := [some (.ref (a 0)), some (.int (nI (s + 1))), some (.int (nI (lowb (s + 1)))), some (.int (nI ((o + 1) + 1)))]) (nI ((o + 1) + 1)) rfl (nI_1 _) 94 rfl d_Mod_payments_91 (by decide) rfl rfl ?_
                    refine r_goto 34 rfl d_Mod_payments_94 ?_
                    refine Runs.cast (ih4 (o + 1) (by omega) (by omega)) (rfl) rfl (by rw [pb, if_neg (fun z => h58 z.2.2)]; try rfl)
        refine Runs.cast (L34_3 _ 0 (by omega) (Nat.lt_succ_self _)) (rfl) rfl (by rw [u2_u2]; rfl)
  refine Runs.cast (L9_1 _ 0 (by omega) (Nat.lt_succ_self _)) (rfl) rfl (rfl)
theorem c_Mod_ringFrom (X : Xn) (a ν : Nat → Nat) (σ : Nat → Nat → Int32) (τ : Nat → Int64) (hn6 : ν 0 ≤ 6) (w : Nat) (hw : w < ν 0) : ∀ (fu : Nat) (p S m : Nat), (p < 6) → (S < 64) → (cz S < fu) → (m < 100 - fu) → Does X (1 + fu) M_Mod_ringFrom [.ref (a 0), .int (nI w), .int (nI p), .int (nI S), .int (nI m)] (MW X a ν σ τ) 0 0 (fun (vv : Option Value) (ww : va_W) => vv = some (.int (rf (ν 0) (σ 5) w fu p S m)) ∧ ww = MW X a ν σ τ) := by
  intro fu
  induction fu with
  | zero => intro p S m hp hS hc hm; exact absurd hc (Nat.not_lt_zero _)
  | succ fu ihf =>
  intro p S m hp hS hc hm
  generalize hQ : (fun (vv : Option Value) (ww : va_W) => vv = some (.int (rf (ν 0) (σ 5) w (fu + 1) p S m)) ∧ ww = MW X a ν σ τ) = Q
  refine Does.go rfl (Nat.le_of_ble_eq_true rfl) [some (.ref (a 0)), some (.int (nI w)), some (.int (nI p)), some (.int (nI S)), some (.int (nI m)), none, none] 2 rfl ?_
  have J26_1 : Runs X (1 + (fu + 1)) M_Mod_ringFrom 0 0 Q 26 [some (.ref (a 0)), some (.int (nI w)), some (.int (nI p)), some (.int (nI S)), some (.int (nI m)), none, none] [.int (rbase (σ 5) w p m)] 0 0 (MW X a ν σ τ) := by
    refine r_istore (ls2 := [some (.ref (a 0)), some (.int (nI w)), some (.int (nI p)), some (.int (nI S)), some (.int (nI m)), some (.int (rbase (σ 5) w p m)), none]) 28 rfl d_Mod_ringFrom_26 (by decide) rfl rfl ?_
    refine r_iload_n rfl 29 rfl d_Mod_ringFrom_28 ?_
    refine r_iconst (nI 1) rfl 30 rfl d_Mod_ringFrom_29 ?_
    refine r_iadd 31 rfl d_Mod_ringFrom_30 ?_
    refine r_topi (nI (w + 1)) (nI_add _ _) ?_
    refine r_istore (ls2 := [some (.ref (a 0)), some (.int (nI w)), some (.int (nI p)), some (.int (nI S)), some (.int (nI m)), some (.int (rbase (σ 5) w p m)), some (.int (nI (w + 1)))]) 33 rfl d_Mod_ringFrom_31 (by decide) rfl rfl ?_
    have L33_2 : ∀ (f : Nat) (k : Nat), (w + 1 + k ≤ ν 0 ∨ k = 0) → ν 0 - (w + 1 + k) < f → Runs X (1 + (fu + 1)) M_Mod_ringFrom 0 0 Q 33 [some (.ref (a 0)), some (.int (nI w)), some (.int (nI p)), some (.int (nI S)), some (.int (nI m)), some (.int (foldN (rstep (ν 0) (σ 5) w fu p S m) (rbase (σ 5) w p m) k)), some (.int (nI (w + 1 + k)))] [] 0 0 (MW X a ν σ τ) := by
      intro f
      induction f with
      | zero => intro k hk hmu; exact absurd hmu (Nat.not_lt_zero _)
      | succ f ih3 =>
        intro k hk hmu
        refine r_iload rfl 35 rfl d_Mod_ringFrom_33 ?_
        refine r_aload_n rfl 36 rfl d_Mod_ringFrom_35 ?_
        refine r_getf (v := .int (nI (ν 0))) gf_Mod_111 0 rfl rfl 39 rfl d_Mod_ringFrom_36 ?_
        refine r_icmp_geN (w + 1 + k) (ν 0) (by omega) (by omega) 42 96 rfl rfl d_Mod_ringFrom_39 (fun h39 => ?_) (fun h39 => ?_)
        · refine r_iload rfl 98 rfl d_Mod_ringFrom_96 ?_
          exact r_iret rfl (Nat.zero_le _) (Nat.zero_le _) d_Mod_ringFrom_98 (by rw [← hQ]; exact ⟨by rw [rf_end h39 hk], rfl⟩)
        · refine r_iload_n rfl 43 rfl d_Mod_ringFrom_42 ?_
          refine r_iload rfl 45 rfl d_Mod_ringFrom_43 ?_
          refine r_ishr 46 rfl d_Mod_ringFrom_45 ?_
          refine r_topi (nI (S >>> (w + 1 + k))) (nI_shr (by omega) (by omega)) ?_
          refine r_iconst (nI 1) rfl 47 rfl d_Mod_ringFrom_46 ?_
          refine r_iand 48 rfl d_Mod_ringFrom_47 ?_
          refine r_topi (nI ((S >>> (w + 1 + k)) &&& 1)) (nx_and _ _) ?_
          refine r_if_neN ((S >>> (w + 1 + k)) &&& 1) (b_lt31 _) 51 90 rfl rfl d_Mod_ringFrom_48 (fun h48 => ?_) (fun h48 => ?_)
          · refine r_iinc (ls2 := [some (.ref (a 0)), some (.int (nI w)), some (.int (nI p)), some (.int (nI S)), some (.int (nI m)), some (.int (foldN (rstep (ν 0) (σ 5) w fu p S m) (rbase (σ 5) w p m) k)), some (.int (nI ((w + 1 + k) + 1)))]) (nI ((w + 1 + k) + 1)) rfl (nI_1 _) 93 rfl d_Mod_ringFrom_90 (by decide) rfl rfl ?_
            refine r_goto 33 rfl d_Mod_ringFrom_93 ?_
            refine Runs.cast (ih3 (k + 1) (Or.inl (by omega)) (by omega)) (by rw [foldN, rstep_b h48]; try rfl) rfl (rfl)
          · refine r_aload_n rfl 52 rfl d_Mod_ringFrom_51 ?_
            refine r_getf (v := .ref (a 5)) gf_Mod_24 0 rfl rfl 55 rfl d_Mod_ringFrom_52 ?_
            refine r_bipush (nI 6) rfl 57 rfl d_Mod_ringFrom_55 ?_
            refine r_iload_n rfl 58 rfl d_Mod_ringFrom_57 ?_
            refine r_imul 59 rfl d_Mod_ringFrom_58 ?_
            refine r_topi (nI (6 * p)) (pk_mul _ _) ?_
            refine r_iload rfl 61 rfl d_Mod_ringFrom_59 ?_
            refine r_iadd 62 rfl d_Mod_ringFrom_61 ?_
            refine r_topi (nI ((6 * p) + (w + 1 + k))) (nI_add _ _) ?_
            refine r_iald 5 rfl ((6 * p) + (w + 1 + k)) rfl (by omega) (by omega) 63 rfl d_Mod_ringFrom_62 ?_
            refine r_if_le 66 90 rfl rfl d_Mod_ringFrom_63 (fun h63 => ?_) (fun h63 => ?_)
            · refine r_iinc (ls2 := [some (.ref (a 0)), some (.int (nI w)), some (.int (nI p)), some (.int (nI S)), some (.int (nI m)), some (.int (foldN (rstep (ν 0) (σ 5) w fu p S m) (rbase (σ 5) w p m) k)), some (.int (nI ((w + 1 + k) + 1)))]) (nI ((w + 1 + k) + 1)) rfl (nI_1 _) 93 rfl d_Mod_ringFrom_90 (by decide) rfl rfl ?_
              refine r_goto 33 rfl d_Mod_ringFrom_93 ?_
              refine Runs.cast (ih3 (k + 1) (Or.inl (by omega)) (by omega)) (by rw [foldN, rstep_d h63]; try rfl) rfl (rfl)
            · refine r_iload rfl 68 rfl d_Mod_ringFrom_66 ?_
              refine r_aload_n rfl 69 rfl d_Mod_ringFrom_68 ?_
              refine r_iload_n rfl 70 rfl d_Mod_ringFrom_69 ?_
              refine r_iload rfl 72 rfl d_Mod_ringFrom_70 ?_
              refine r_iload_n rfl 73 rfl d_Mod_ringFrom_72 ?_
              refine r_iconst (nI 1) rfl 74 rfl d_Mod_ringFrom_73 ?_
              refine r_iload rfl 76 rfl d_Mod_ringFrom_74 ?_
              refine r_ishl 77 rfl d_Mod_ringFrom_76 ?_
              refine r_topi (nI (1 <<< (w + 1 + k))) (nI_shl (by omega) (one_shl (by omega))) ?_
              refine r_ior 78 rfl d_Mod_ringFrom_77 ?_
              refine r_topi (nI (S ||| (1 <<< (w + 1 + k)))) (nx_or _ _) ?_
              refine r_iload rfl 80 rfl d_Mod_ringFrom_78 ?_
              refine r_iconst (nI 1) rfl 81 rfl d_Mod_ringFrom_80 ?_
              refine r_iadd 82 rfl d_Mod_ringFrom_81 ?_
              refine r_topi (nI (m + 1)) (nI_add _ _) ?_
              refine r_callVA1 (st2 := [.int (rf (ν 0) (σ 5) w fu (w + 1 + k) (S ||| (1 <<< (w + 1 + k))) (m + 1)), .int (foldN (rstep (ν 0) (σ 5) w fu p S m) (rbase (σ 5) w p m) k)]) (w2 := MW X a ν σ τ) lk_Mod_ringFrom ln_Mod_276 (ihf (w + 1 + k) (S ||| (1 <<< (w + 1 + k))) (m + 1) (by omega) (or_lt hS (by omega)) (by have := cz_or hS (show w + 1 + k < 6 by omega) h48; omega) (by omega)) (by first | decide | omega) rfl rfl (Nat.le_of_ble_eq_true rfl) (Nat.le_of_ble_eq_true rfl) (Nat.le_of_ble_eq_true rfl) 0 rfl rfl rfl rfl 85 rfl d_Mod_ringFrom_82 ?_
              refine r_mmax (inTB 1235 (by decide +kernel) rfl) (by first | decide | omega) (Nat.le_of_ble_eq_true rfl) (Nat.le_of_ble_eq_true rfl) (Nat.le_of_ble_eq_true rfl) 88 rfl d_Mod_ringFrom_85 ?_
              refine r_istore (ls2 := [some (.ref (a 0)), some (.int (nI w)), some (.int (nI p)), some (.int (nI S)), some (.int (nI m)), some (.int (if (foldN (rstep (ν 0) (σ 5) w fu p S m) (rbase (σ 5) w p m) k) < (rf (ν 0) (σ 5) w fu (w + 1 + k) (S ||| (1 <<< (w + 1 + k))) (m + 1)) then (rf (ν 0) (σ 5) w fu (w + 1 + k) (S ||| (1 <<< (w + 1 + k))) (m + 1)) else (foldN (rstep (ν 0) (σ 5) w fu p S m) (rbase (σ 5) w p m) k))), some (.int (nI (w + 1 + k)))]) 90 rfl d_Mod_ringFrom_88 (by decide) rfl rfl ?_
              refine r_iinc (ls2 := [some (.ref (a 0)), some (.int (nI w)), some (.int (nI p)), some (.int (nI S)), some (.int (nI m)), some (.int (if (foldN (rstep (ν 0) (σ 5) w fu p S m) (rbase (σ 5) w p m) k) < (rf (ν 0) (σ 5) w fu (w + 1 + k) (S ||| (1 <<< (w + 1 + k))) (m + 1)) then (rf (ν 0) (σ 5) w fu (w + 1 + k) (S ||| (1 <<< (w + 1 + k))) (m + 1)) else (foldN (rstep (ν 0) (σ 5) w fu p S m) (rbase (σ 5) w p m) k))), some (.int (nI ((w + 1 + k) + 1)))]) (nI ((w + 1 + k) + 1)) rfl (nI_1 _) 93 rfl d_Mod_ringFrom_90 (by decide) rfl rfl ?_
              refine r_goto 33 rfl d_Mod_ringFrom_93 ?_
              refine Runs.cast (ih3 (k + 1) (Or.inl (by omega)) (by omega)) (by rw [foldN, rstep_t h48 h63]; try rfl) rfl (rfl)
    exact L33_2 _ 0 (Or.inr rfl) (Nat.lt_succ_self _)
  refine r_iload rfl 2 rfl d_Mod_ringFrom_0 ?_
  refine r_iconst (nI 1) rfl 3 rfl d_Mod_ringFrom_2 ?_
  refine r_icmp_leN m 1 (by omega) (by omega) 6 25 rfl rfl d_Mod_ringFrom_3 (fun h3 => ?_) (fun h3 => ?_)
  · refine r_iconst (nI 0) rfl 26 rfl d_Mod_ringFrom_25 ?_
    refine r_topi (rbase (σ 5) w p m) ((if_neg (fun z => by omega)).symm) ?_
    exact J26_1  
  · refine r_aload_n rfl 7 rfl d_Mod_ringFrom_6 ?_
    refine r_getf (v := .ref (a 5)) gf_Mod_24 0 rfl rfl 10 rfl d_Mod_ringFrom_7 ?_
    refine r_bipush (nI 6) rfl 12 rfl d_Mod_ringFrom_10 ?_
    refine r_iload_n rfl 13 rfl d_Mod_ringFrom_12 ?_
    refine r_imul 14 rfl d_Mod_ringFrom_13 ?_
    refine r_topi (nI (6 * p)) (pk_mul _ _) ?_
    refine r_iload_n rfl 15 rfl d_Mod_ringFrom_14 ?_
    refine r_iadd 16 rfl d_Mod_ringFrom_15 ?_
    refine r_topi (nI ((6 * p) + w)) (nI_add _ _) ?_
    refine r_iald 5 rfl ((6 * p) + w) rfl (by omega) (by omega) 17 rfl d_Mod_ringFrom_16 ?_
    refine r_if_le 20 25 rfl rfl d_Mod_ringFrom_17 (fun h17 => ?_) (fun h17 => ?_)
    · refine r_iconst (nI 0) rfl 26 rfl d_Mod_ringFrom_25 ?_
      refine r_topi (rbase (σ 5) w p m) ((if_neg (fun z => absurd z.2 (Int32.not_lt.mpr h17))).symm) ?_
      exact J26_1  
    · refine r_iload rfl 22 rfl d_Mod_ringFrom_20 ?_
      refine r_goto 26 rfl d_Mod_ringFrom_22 ?_
      refine r_topi (rbase (σ 5) w p m) ((if_pos ⟨h3, Int32.not_le.mp h17⟩).symm) ?_
      exact J26_1  
