def M_Rws_cell : XM := (⟨"HandshakeBinds$Rows", "cell", "(II)I"⟩, prog_7_method_3_code, 3, (some .int))
theorem d_Rws_cell_0 : decode M_Rws_cell.2.1 0 = .ok (.aload_n 0, 1) := by decide +kernel
theorem d_Rws_cell_1 : decode M_Rws_cell.2.1 1 = .ok (.getfield 15, 3) := by decide +kernel
theorem gf_Rws_15 : GF "HandshakeBinds$Rows" 15 3 0 := ⟨_, _, _, rfl, by decide, i_Rws, inTB 126 (by decide +kernel) rfl⟩
theorem d_Rws_cell_4 : decode M_Rws_cell.2.1 4 = .ok (.iload_n 1, 1) := by decide +kernel
theorem d_Rws_cell_5 : decode M_Rws_cell.2.1 5 = .ok (.iconst 5, 1) := by decide +kernel
theorem d_Rws_cell_6 : decode M_Rws_cell.2.1 6 = .ok (.imul, 1) := by decide +kernel
theorem d_Rws_cell_7 : decode M_Rws_cell.2.1 7 = .ok (.iload_n 2, 1) := by decide +kernel
theorem d_Rws_cell_8 : decode M_Rws_cell.2.1 8 = .ok (.iadd, 1) := by decide +kernel
theorem d_Rws_cell_9 : decode M_Rws_cell.2.1 9 = .ok (.invokestatic 23, 3) := by decide +kernel
theorem ln_Rws_23 : Cond.methodLinkNest "HandshakeBinds$Rows" 23 M_HB_at.1 "HandshakeBinds" ∈ NW := inNW 669 (by decide +kernel) rfl
theorem d_Rws_cell_12 : decode M_Rws_cell.2.1 12 = .ok (.ireturn, 1) := by decide +kernel
def M_Rws_add : XM := (⟨"HandshakeBinds$Rows", "add", "(IIIII)Z"⟩, prog_7_method_2_code, 7, (some .boolean))
theorem d_Rws_add_0 : decode M_Rws_add.2.1 0 = .ok (.aload_n 0, 1) := by decide +kernel
theorem d_Rws_add_1 : decode M_Rws_add.2.1 1 = .ok (.getfield 19, 3) := by decide +kernel
theorem gf_Rws_19 : GF "HandshakeBinds$Rows" 19 3 1 := ⟨_, _, _, rfl, by decide, i_Rws, inTB 127 (by decide +kernel) rfl⟩
theorem d_Rws_add_4 : decode M_Rws_add.2.1 4 = .ok (.iconst 5, 1) := by decide +kernel
theorem d_Rws_add_5 : decode M_Rws_add.2.1 5 = .ok (.imul, 1) := by decide +kernel
theorem d_Rws_add_6 : decode M_Rws_add.2.1 6 = .ok (.istore 6, 2) := by decide +kernel
theorem d_Rws_add_8 : decode M_Rws_add.2.1 8 = .ok (.iload 6, 2) := by decide +kernel
theorem d_Rws_add_10 : decode M_Rws_add.2.1 10 = .ok (.ifCond .lt 15, 3) := by decide +kernel
theorem d_Rws_add_13 : decode M_Rws_add.2.1 13 = .ok (.iload 6, 2) := by decide +kernel
theorem d_Rws_add_15 : decode M_Rws_add.2.1 15 = .ok (.aload_n 0, 1) := by decide +kernel
theorem d_Rws_add_16 : decode M_Rws_add.2.1 16 = .ok (.getfield 15, 3) := by decide +kernel
theorem d_Rws_add_19 : decode M_Rws_add.2.1 19 = .ok (.arraylength, 1) := by decide +kernel
theorem d_Rws_add_20 : decode M_Rws_add.2.1 20 = .ok (.iconst 5, 1) := by decide +kernel
theorem d_Rws_add_21 : decode M_Rws_add.2.1 21 = .ok (.isub, 1) := by decide +kernel
theorem d_Rws_add_22 : decode M_Rws_add.2.1 22 = .ok (.if_icmp .le 5, 3) := by decide +kernel
theorem d_Rws_add_27 : decode M_Rws_add.2.1 27 = .ok (.aload_n 0, 1) := by decide +kernel
theorem d_Rws_add_28 : decode M_Rws_add.2.1 28 = .ok (.getfield 15, 3) := by decide +kernel
theorem d_Rws_add_31 : decode M_Rws_add.2.1 31 = .ok (.iload 6, 2) := by decide +kernel
theorem d_Rws_add_33 : decode M_Rws_add.2.1 33 = .ok (.iload_n 1, 1) := by decide +kernel
theorem d_Rws_add_34 : decode M_Rws_add.2.1 34 = .ok (.iastore, 1) := by decide +kernel
theorem d_Rws_add_35 : decode M_Rws_add.2.1 35 = .ok (.aload_n 0, 1) := by decide +kernel
theorem d_Rws_add_36 : decode M_Rws_add.2.1 36 = .ok (.getfield 15, 3) := by decide +kernel
theorem d_Rws_add_39 : decode M_Rws_add.2.1 39 = .ok (.iload 6, 2) := by decide +kernel
theorem d_Rws_add_41 : decode M_Rws_add.2.1 41 = .ok (.iconst 1, 1) := by decide +kernel
theorem d_Rws_add_42 : decode M_Rws_add.2.1 42 = .ok (.iadd, 1) := by decide +kernel
theorem d_Rws_add_43 : decode M_Rws_add.2.1 43 = .ok (.iload_n 2, 1) := by decide +kernel
theorem d_Rws_add_44 : decode M_Rws_add.2.1 44 = .ok (.iastore, 1) := by decide +kernel
theorem d_Rws_add_45 : decode M_Rws_add.2.1 45 = .ok (.aload_n 0, 1) := by decide +kernel
theorem d_Rws_add_46 : decode M_Rws_add.2.1 46 = .ok (.getfield 15, 3) := by decide +kernel
theorem d_Rws_add_49 : decode M_Rws_add.2.1 49 = .ok (.iload 6, 2) := by decide +kernel
theorem d_Rws_add_51 : decode M_Rws_add.2.1 51 = .ok (.iconst 2, 1) := by decide +kernel
theorem d_Rws_add_52 : decode M_Rws_add.2.1 52 = .ok (.iadd, 1) := by decide +kernel
theorem d_Rws_add_53 : decode M_Rws_add.2.1 53 = .ok (.iload_n 3, 1) := by decide +kernel
theorem d_Rws_add_54 : decode M_Rws_add.2.1 54 = .ok (.iastore, 1) := by decide +kernel
theorem d_Rws_add_55 : decode M_Rws_add.2.1 55 = .ok (.aload_n 0, 1) := by decide +kernel
theorem d_Rws_add_56 : decode M_Rws_add.2.1 56 = .ok (.getfield 15, 3) := by decide +kernel
theorem d_Rws_add_59 : decode M_Rws_add.2.1 59 = .ok (.iload 6, 2) := by decide +kernel
theorem d_Rws_add_61 : decode M_Rws_add.2.1 61 = .ok (.iconst 3, 1) := by decide +kernel
theorem d_Rws_add_62 : decode M_Rws_add.2.1 62 = .ok (.iadd, 1) := by decide +kernel
theorem d_Rws_add_63 : decode M_Rws_add.2.1 63 = .ok (.iload 4, 2) := by decide +kernel
theorem d_Rws_add_65 : decode M_Rws_add.2.1 65 = .ok (.iastore, 1) := by decide +kernel
theorem d_Rws_add_66 : decode M_Rws_add.2.1 66 = .ok (.aload_n 0, 1) := by decide +kernel
theorem d_Rws_add_67 : decode M_Rws_add.2.1 67 = .ok (.getfield 15, 3) := by decide +kernel
theorem d_Rws_add_70 : decode M_Rws_add.2.1 70 = .ok (.iload 6, 2) := by decide +kernel
theorem d_Rws_add_72 : decode M_Rws_add.2.1 72 = .ok (.iconst 4, 1) := by decide +kernel
theorem d_Rws_add_73 : decode M_Rws_add.2.1 73 = .ok (.iadd, 1) := by decide +kernel
theorem d_Rws_add_74 : decode M_Rws_add.2.1 74 = .ok (.iload 5, 2) := by decide +kernel
theorem d_Rws_add_76 : decode M_Rws_add.2.1 76 = .ok (.iastore, 1) := by decide +kernel
theorem d_Rws_add_77 : decode M_Rws_add.2.1 77 = .ok (.aload_n 0, 1) := by decide +kernel
theorem d_Rws_add_78 : decode M_Rws_add.2.1 78 = .ok (.dup, 1) := by decide +kernel
theorem d_Rws_add_79 : decode M_Rws_add.2.1 79 = .ok (.getfield 19, 3) := by decide +kernel
theorem d_Rws_add_82 : decode M_Rws_add.2.1 82 = .ok (.iconst 1, 1) := by decide +kernel
theorem d_Rws_add_83 : decode M_Rws_add.2.1 83 = .ok (.iadd, 1) := by decide +kernel
theorem d_Rws_add_84 : decode M_Rws_add.2.1 84 = .ok (.putfield 19, 3) := by decide +kernel
theorem pf_Rws_19 : PF "HandshakeBinds$Rows" 19 3 1 (.int) false := ⟨_, _, _, t_Rws, rfl, by decide, i_Rws, t_Rws_ok, n_Rws, inTB 127 (by decide +kernel) rfl, rfl, t_Rws_ok 1 (by decide), fun _ => rfl⟩
theorem d_Rws_add_87 : decode M_Rws_add.2.1 87 = .ok (.iconst 1, 1) := by decide +kernel
theorem d_Rws_add_88 : decode M_Rws_add.2.1 88 = .ok (.ireturn, 1) := by decide +kernel
theorem d_Rws_add_25 : decode M_Rws_add.2.1 25 = .ok (.iconst 0, 1) := by decide +kernel
theorem d_Rws_add_26 : decode M_Rws_add.2.1 26 = .ok (.ireturn, 1) := by decide +kernel
def M_Rws_copyFrom : XM := (⟨"HandshakeBinds$Rows", "copyFrom", "(LHandshakeBinds$Rows;)V"⟩, prog_7_method_4_code, 2, none)
theorem d_Rws_copyFrom_0 : decode M_Rws_copyFrom.2.1 0 = .ok (.aload_n 1, 1) := by decide +kernel
theorem d_Rws_copyFrom_1 : decode M_Rws_copyFrom.2.1 1 = .ok (.getfield 15, 3) := by decide +kernel
theorem d_Rws_copyFrom_4 : decode M_Rws_copyFrom.2.1 4 = .ok (.iconst 0, 1) := by decide +kernel
theorem d_Rws_copyFrom_5 : decode M_Rws_copyFrom.2.1 5 = .ok (.aload_n 0, 1) := by decide +kernel
theorem d_Rws_copyFrom_6 : decode M_Rws_copyFrom.2.1 6 = .ok (.getfield 15, 3) := by decide +kernel
theorem d_Rws_copyFrom_9 : decode M_Rws_copyFrom.2.1 9 = .ok (.iconst 0, 1) := by decide +kernel
theorem d_Rws_copyFrom_10 : decode M_Rws_copyFrom.2.1 10 = .ok (.aload_n 0, 1) := by decide +kernel
theorem d_Rws_copyFrom_11 : decode M_Rws_copyFrom.2.1 11 = .ok (.getfield 15, 3) := by decide +kernel
theorem d_Rws_copyFrom_14 : decode M_Rws_copyFrom.2.1 14 = .ok (.arraylength, 1) := by decide +kernel
theorem d_Rws_copyFrom_15 : decode M_Rws_copyFrom.2.1 15 = .ok (.aload_n 1, 1) := by decide +kernel
theorem d_Rws_copyFrom_16 : decode M_Rws_copyFrom.2.1 16 = .ok (.getfield 15, 3) := by decide +kernel
theorem d_Rws_copyFrom_19 : decode M_Rws_copyFrom.2.1 19 = .ok (.arraylength, 1) := by decide +kernel
theorem d_Rws_copyFrom_20 : decode M_Rws_copyFrom.2.1 20 = .ok (.invokestatic 29, 3) := by decide +kernel
theorem d_Rws_copyFrom_23 : decode M_Rws_copyFrom.2.1 23 = .ok (.invokestatic 32, 3) := by decide +kernel
theorem d_Rws_copyFrom_26 : decode M_Rws_copyFrom.2.1 26 = .ok (.aload_n 0, 1) := by decide +kernel
theorem d_Rws_copyFrom_27 : decode M_Rws_copyFrom.2.1 27 = .ok (.aload_n 1, 1) := by decide +kernel
theorem d_Rws_copyFrom_28 : decode M_Rws_copyFrom.2.1 28 = .ok (.getfield 19, 3) := by decide +kernel
theorem d_Rws_copyFrom_31 : decode M_Rws_copyFrom.2.1 31 = .ok (.putfield 19, 3) := by decide +kernel
theorem d_Rws_copyFrom_34 : decode M_Rws_copyFrom.2.1 34 = .ok (.return_, 1) := by decide +kernel
def M_Fac_valueOf : XM := (⟨"HandshakeBinds$Facts", "valueOf", "(I)I"⟩, prog_4_method_3_code, 2, (some .int))
theorem d_Fac_valueOf_0 : decode M_Fac_valueOf.2.1 0 = .ok (.iload_n 1, 1) := by decide +kernel
theorem d_Fac_valueOf_1 : decode M_Fac_valueOf.2.1 1 = .ok (.tableswitch 91 107 118 #[73, 91, 91, 91, 91, 63, 68, 91, 83, 91, 91, 78], 63) := by decide +kernel
theorem d_Fac_valueOf_64 : decode M_Fac_valueOf.2.1 64 = .ok (.aload_n 0, 1) := by decide +kernel
theorem d_Fac_valueOf_65 : decode M_Fac_valueOf.2.1 65 = .ok (.getfield 13, 3) := by decide +kernel
theorem gf_Fac_13 : GF "HandshakeBinds$Facts" 13 4 0 := ⟨_, _, _, rfl, by decide, i_Fac, inTB 141 (by decide +kernel) rfl⟩
theorem d_Fac_valueOf_68 : decode M_Fac_valueOf.2.1 68 = .ok (.ireturn, 1) := by decide +kernel
theorem d_Fac_valueOf_69 : decode M_Fac_valueOf.2.1 69 = .ok (.aload_n 0, 1) := by decide +kernel
theorem d_Fac_valueOf_70 : decode M_Fac_valueOf.2.1 70 = .ok (.getfield 17, 3) := by decide +kernel
theorem gf_Fac_17 : GF "HandshakeBinds$Facts" 17 4 1 := ⟨_, _, _, rfl, by decide, i_Fac, inTB 143 (by decide +kernel) rfl⟩
theorem d_Fac_valueOf_73 : decode M_Fac_valueOf.2.1 73 = .ok (.ireturn, 1) := by decide +kernel
theorem d_Fac_valueOf_74 : decode M_Fac_valueOf.2.1 74 = .ok (.aload_n 0, 1) := by decide +kernel
theorem d_Fac_valueOf_75 : decode M_Fac_valueOf.2.1 75 = .ok (.getfield 20, 3) := by decide +kernel
theorem gf_Fac_20 : GF "HandshakeBinds$Facts" 20 4 2 := ⟨_, _, _, rfl, by decide, i_Fac, inTB 145 (by decide +kernel) rfl⟩
theorem d_Fac_valueOf_78 : decode M_Fac_valueOf.2.1 78 = .ok (.ireturn, 1) := by decide +kernel
theorem d_Fac_valueOf_79 : decode M_Fac_valueOf.2.1 79 = .ok (.aload_n 0, 1) := by decide +kernel
theorem d_Fac_valueOf_80 : decode M_Fac_valueOf.2.1 80 = .ok (.getfield 23, 3) := by decide +kernel
theorem gf_Fac_23 : GF "HandshakeBinds$Facts" 23 4 3 := ⟨_, _, _, rfl, by decide, i_Fac, inTB 147 (by decide +kernel) rfl⟩
theorem d_Fac_valueOf_83 : decode M_Fac_valueOf.2.1 83 = .ok (.ireturn, 1) := by decide +kernel
theorem d_Fac_valueOf_84 : decode M_Fac_valueOf.2.1 84 = .ok (.aload_n 0, 1) := by decide +kernel
theorem d_Fac_valueOf_85 : decode M_Fac_valueOf.2.1 85 = .ok (.getfield 26, 3) := by decide +kernel
theorem gf_Fac_26 : GF "HandshakeBinds$Facts" 26 4 4 := ⟨_, _, _, rfl, by decide, i_Fac, inTB 149 (by decide +kernel) rfl⟩
theorem d_Fac_valueOf_88 : decode M_Fac_valueOf.2.1 88 = .ok (.bipush 10, 2) := by decide +kernel
theorem d_Fac_valueOf_90 : decode M_Fac_valueOf.2.1 90 = .ok (.idiv, 1) := by decide +kernel
theorem d_Fac_valueOf_91 : decode M_Fac_valueOf.2.1 91 = .ok (.ireturn, 1) := by decide +kernel
theorem d_Fac_valueOf_92 : decode M_Fac_valueOf.2.1 92 = .ok (.aload_n 0, 1) := by decide +kernel
theorem d_Fac_valueOf_93 : decode M_Fac_valueOf.2.1 93 = .ok (.getfield 29, 3) := by decide +kernel
theorem gf_Fac_29 : GF "HandshakeBinds$Facts" 29 4 5 := ⟨_, _, _, rfl, by decide, i_Fac, inTB 152 (by decide +kernel) rfl⟩
theorem d_Fac_valueOf_96 : decode M_Fac_valueOf.2.1 96 = .ok (.bipush 10, 2) := by decide +kernel
theorem d_Fac_valueOf_98 : decode M_Fac_valueOf.2.1 98 = .ok (.irem, 1) := by decide +kernel
theorem d_Fac_valueOf_99 : decode M_Fac_valueOf.2.1 99 = .ok (.ireturn, 1) := by decide +kernel
def M_Fac_passes : XM := (⟨"HandshakeBinds$Facts", "passes", "(III)Z"⟩, prog_4_method_2_code, 5, (some .boolean))
theorem d_Fac_passes_0 : decode M_Fac_passes.2.1 0 = .ok (.aload_n 0, 1) := by decide +kernel
theorem d_Fac_passes_1 : decode M_Fac_passes.2.1 1 = .ok (.iload_n 1, 1) := by decide +kernel
theorem d_Fac_passes_2 : decode M_Fac_passes.2.1 2 = .ok (.invokevirtual 7, 3) := by decide +kernel
theorem ln_Fac_7 : Cond.methodLink "HandshakeBinds$Facts" 7 M_Fac_valueOf.1 ∈ TB := inTB 456 (by decide +kernel) rfl
theorem lk_Fac_valueOf : LVt M_Fac_valueOf 1 := ⟨⟨inTB 67 (by decide +kernel) rfl, inTB 459 (by decide +kernel) rfl, ⟨by decide, by decide, by decide +kernel⟩, by decide⟩, inTB 458 (by decide +kernel) rfl, inTB 6 (by decide +kernel) rfl⟩
theorem d_Fac_passes_5 : decode M_Fac_passes.2.1 5 = .ok (.istore 4, 2) := by decide +kernel
theorem d_Fac_passes_7 : decode M_Fac_passes.2.1 7 = .ok (.iload_n 2, 1) := by decide +kernel
theorem d_Fac_passes_8 : decode M_Fac_passes.2.1 8 = .ok (.bipush 60, 2) := by decide +kernel
theorem d_Fac_passes_10 : decode M_Fac_passes.2.1 10 = .ok (.if_icmp .ne 15, 3) := by decide +kernel
theorem d_Fac_passes_13 : decode M_Fac_passes.2.1 13 = .ok (.iload 4, 2) := by decide +kernel
theorem d_Fac_passes_15 : decode M_Fac_passes.2.1 15 = .ok (.iload_n 3, 1) := by decide +kernel
theorem d_Fac_passes_16 : decode M_Fac_passes.2.1 16 = .ok (.if_icmp .ge 7, 3) := by decide +kernel
theorem d_Fac_passes_23 : decode M_Fac_passes.2.1 23 = .ok (.iconst 0, 1) := by decide +kernel
theorem d_Fac_passes_24 : decode M_Fac_passes.2.1 24 = .ok (.ireturn, 1) := by decide +kernel
theorem d_Fac_passes_19 : decode M_Fac_passes.2.1 19 = .ok (.iconst 1, 1) := by decide +kernel
theorem d_Fac_passes_20 : decode M_Fac_passes.2.1 20 = .ok (.goto 4, 3) := by decide +kernel
theorem d_Fac_passes_25 : decode M_Fac_passes.2.1 25 = .ok (.iload_n 2, 1) := by decide +kernel
theorem d_Fac_passes_26 : decode M_Fac_passes.2.1 26 = .ok (.bipush 61, 2) := by decide +kernel
theorem d_Fac_passes_28 : decode M_Fac_passes.2.1 28 = .ok (.if_icmp .ne 17, 3) := by decide +kernel
theorem d_Fac_passes_31 : decode M_Fac_passes.2.1 31 = .ok (.iload 4, 2) := by decide +kernel
theorem d_Fac_passes_33 : decode M_Fac_passes.2.1 33 = .ok (.iload_n 3, 1) := by decide +kernel
theorem d_Fac_passes_34 : decode M_Fac_passes.2.1 34 = .ok (.if_icmp .ne 7, 3) := by decide +kernel
theorem d_Fac_passes_41 : decode M_Fac_passes.2.1 41 = .ok (.iconst 0, 1) := by decide +kernel
theorem d_Fac_passes_42 : decode M_Fac_passes.2.1 42 = .ok (.goto 14, 3) := by decide +kernel
theorem d_Fac_passes_56 : decode M_Fac_passes.2.1 56 = .ok (.ireturn, 1) := by decide +kernel
theorem d_Fac_passes_37 : decode M_Fac_passes.2.1 37 = .ok (.iconst 1, 1) := by decide +kernel
theorem d_Fac_passes_38 : decode M_Fac_passes.2.1 38 = .ok (.goto 18, 3) := by decide +kernel
theorem d_Fac_passes_45 : decode M_Fac_passes.2.1 45 = .ok (.iload 4, 2) := by decide +kernel
theorem d_Fac_passes_47 : decode M_Fac_passes.2.1 47 = .ok (.iload_n 3, 1) := by decide +kernel
theorem d_Fac_passes_48 : decode M_Fac_passes.2.1 48 = .ok (.if_icmp .le 7, 3) := by decide +kernel
theorem d_Fac_passes_55 : decode M_Fac_passes.2.1 55 = .ok (.iconst 0, 1) := by decide +kernel
theorem d_Fac_passes_51 : decode M_Fac_passes.2.1 51 = .ok (.iconst 1, 1) := by decide +kernel
theorem d_Fac_passes_52 : decode M_Fac_passes.2.1 52 = .ok (.goto 4, 3) := by decide +kernel
def M_Exc_holds : XM := (⟨"HandshakeBinds$Exchange", "holds", "(IILHandshakeBinds$Facts;)Z"⟩, prog_3_method_7_code, 9, (some .boolean))
theorem d_Exc_holds_0 : decode M_Exc_holds.2.1 0 = .ok (.iconst 0, 1) := by decide +kernel
theorem d_Exc_holds_1 : decode M_Exc_holds.2.1 1 = .ok (.istore 4, 2) := by decide +kernel
theorem d_Exc_holds_3 : decode M_Exc_holds.2.1 3 = .ok (.iload_n 1, 1) := by decide +kernel
theorem d_Exc_holds_4 : decode M_Exc_holds.2.1 4 = .ok (.istore 5, 2) := by decide +kernel
theorem d_Exc_holds_6 : decode M_Exc_holds.2.1 6 = .ok (.iload 5, 2) := by decide +kernel
theorem d_Exc_holds_8 : decode M_Exc_holds.2.1 8 = .ok (.iload_n 2, 1) := by decide +kernel
theorem d_Exc_holds_9 : decode M_Exc_holds.2.1 9 = .ok (.if_icmp .ge 123, 3) := by decide +kernel
theorem d_Exc_holds_132 : decode M_Exc_holds.2.1 132 = .ok (.iload 4, 2) := by decide +kernel
theorem d_Exc_holds_134 : decode M_Exc_holds.2.1 134 = .ok (.iconst 1, 1) := by decide +kernel
theorem d_Exc_holds_135 : decode M_Exc_holds.2.1 135 = .ok (.iand, 1) := by decide +kernel
theorem d_Exc_holds_136 : decode M_Exc_holds.2.1 136 = .ok (.ifCond .eq 7, 3) := by decide +kernel
theorem d_Exc_holds_143 : decode M_Exc_holds.2.1 143 = .ok (.iconst 0, 1) := by decide +kernel
theorem d_Exc_holds_144 : decode M_Exc_holds.2.1 144 = .ok (.ireturn, 1) := by decide +kernel
theorem d_Exc_holds_139 : decode M_Exc_holds.2.1 139 = .ok (.iconst 1, 1) := by decide +kernel
theorem d_Exc_holds_140 : decode M_Exc_holds.2.1 140 = .ok (.goto 4, 3) := by decide +kernel
theorem d_Exc_holds_12 : decode M_Exc_holds.2.1 12 = .ok (.aload_n 0, 1) := by decide +kernel
theorem d_Exc_holds_13 : decode M_Exc_holds.2.1 13 = .ok (.getfield 9, 3) := by decide +kernel
theorem gf_Exc_9 : GF "HandshakeBinds$Exchange" 9 5 0 := ⟨_, _, _, rfl, by decide, i_Exc, inTB 225 (by decide +kernel) rfl⟩
theorem d_Exc_holds_16 : decode M_Exc_holds.2.1 16 = .ok (.iload 5, 2) := by decide +kernel
theorem d_Exc_holds_18 : decode M_Exc_holds.2.1 18 = .ok (.invokestatic 40, 3) := by decide +kernel
theorem ln_Exc_40 : Cond.methodLinkNest "HandshakeBinds$Exchange" 40 M_HB_at.1 "HandshakeBinds" ∈ NW := inNW 447 (by decide +kernel) rfl
theorem d_Exc_holds_21 : decode M_Exc_holds.2.1 21 = .ok (.istore 6, 2) := by decide +kernel
theorem d_Exc_holds_23 : decode M_Exc_holds.2.1 23 = .ok (.iload 4, 2) := by decide +kernel
theorem d_Exc_holds_25 : decode M_Exc_holds.2.1 25 = .ok (.iconst 1, 1) := by decide +kernel
theorem d_Exc_holds_26 : decode M_Exc_holds.2.1 26 = .ok (.iand, 1) := by decide +kernel
theorem d_Exc_holds_27 : decode M_Exc_holds.2.1 27 = .ok (.istore 7, 2) := by decide +kernel
theorem d_Exc_holds_29 : decode M_Exc_holds.2.1 29 = .ok (.iload 6, 2) := by decide +kernel
theorem d_Exc_holds_31 : decode M_Exc_holds.2.1 31 = .ok (.iconst (-1), 1) := by decide +kernel
theorem d_Exc_holds_32 : decode M_Exc_holds.2.1 32 = .ok (.if_icmp .ne 12, 3) := by decide +kernel
theorem d_Exc_holds_44 : decode M_Exc_holds.2.1 44 = .ok (.iload 6, 2) := by decide +kernel
theorem d_Exc_holds_46 : decode M_Exc_holds.2.1 46 = .ok (.bipush (-2), 2) := by decide +kernel
theorem d_Exc_holds_48 : decode M_Exc_holds.2.1 48 = .ok (.if_icmp .ne 18, 3) := by decide +kernel
theorem d_Exc_holds_66 : decode M_Exc_holds.2.1 66 = .ok (.iload 6, 2) := by decide +kernel
theorem d_Exc_holds_68 : decode M_Exc_holds.2.1 68 = .ok (.bipush (-3), 2) := by decide +kernel
theorem d_Exc_holds_70 : decode M_Exc_holds.2.1 70 = .ok (.if_icmp .ne 15, 3) := by decide +kernel
theorem d_Exc_holds_85 : decode M_Exc_holds.2.1 85 = .ok (.aload_n 3, 1) := by decide +kernel
theorem d_Exc_holds_86 : decode M_Exc_holds.2.1 86 = .ok (.iload 6, 2) := by decide +kernel
theorem d_Exc_holds_88 : decode M_Exc_holds.2.1 88 = .ok (.bipush 14, 2) := by decide +kernel
theorem d_Exc_holds_90 : decode M_Exc_holds.2.1 90 = .ok (.ishr, 1) := by decide +kernel
theorem d_Exc_holds_91 : decode M_Exc_holds.2.1 91 = .ok (.iload 6, 2) := by decide +kernel
theorem d_Exc_holds_93 : decode M_Exc_holds.2.1 93 = .ok (.bipush 7, 2) := by decide +kernel
theorem d_Exc_holds_95 : decode M_Exc_holds.2.1 95 = .ok (.ishr, 1) := by decide +kernel
theorem d_Exc_holds_96 : decode M_Exc_holds.2.1 96 = .ok (.bipush 127, 2) := by decide +kernel
theorem d_Exc_holds_98 : decode M_Exc_holds.2.1 98 = .ok (.iand, 1) := by decide +kernel
theorem d_Exc_holds_99 : decode M_Exc_holds.2.1 99 = .ok (.iload 6, 2) := by decide +kernel
theorem d_Exc_holds_101 : decode M_Exc_holds.2.1 101 = .ok (.bipush 127, 2) := by decide +kernel
theorem d_Exc_holds_103 : decode M_Exc_holds.2.1 103 = .ok (.iand, 1) := by decide +kernel
theorem d_Exc_holds_104 : decode M_Exc_holds.2.1 104 = .ok (.invokevirtual 48, 3) := by decide +kernel
theorem ln_Exc_48 : Cond.methodLink "HandshakeBinds$Exchange" 48 M_Fac_passes.1 ∈ TB := inTB 452 (by decide +kernel) rfl
theorem lk_Fac_passes : LVt M_Fac_passes 3 := ⟨⟨inTB 67 (by decide +kernel) rfl, inTB 455 (by decide +kernel) rfl, ⟨by decide, by decide, by decide +kernel⟩, by decide⟩, inTB 453 (by decide +kernel) rfl, inTB 454 (by decide +kernel) rfl⟩
theorem d_Exc_holds_107 : decode M_Exc_holds.2.1 107 = .ok (.istore 8, 2) := by decide +kernel
theorem d_Exc_holds_109 : decode M_Exc_holds.2.1 109 = .ok (.iload 4, 2) := by decide +kernel
theorem d_Exc_holds_111 : decode M_Exc_holds.2.1 111 = .ok (.iconst 1, 1) := by decide +kernel
theorem d_Exc_holds_112 : decode M_Exc_holds.2.1 112 = .ok (.ishl, 1) := by decide +kernel
theorem d_Exc_holds_113 : decode M_Exc_holds.2.1 113 = .ok (.iload 8, 2) := by decide +kernel
theorem d_Exc_holds_115 : decode M_Exc_holds.2.1 115 = .ok (.ifCond .eq 7, 3) := by decide +kernel
theorem d_Exc_holds_122 : decode M_Exc_holds.2.1 122 = .ok (.iconst 0, 1) := by decide +kernel
theorem d_Exc_holds_123 : decode M_Exc_holds.2.1 123 = .ok (.ior, 1) := by decide +kernel
theorem d_Exc_holds_124 : decode M_Exc_holds.2.1 124 = .ok (.istore 4, 2) := by decide +kernel
theorem d_Exc_holds_126 : decode M_Exc_holds.2.1 126 = .ok (.iinc 5 1, 3) := by decide +kernel
theorem d_Exc_holds_129 : decode M_Exc_holds.2.1 129 = .ok (.goto (-123), 3) := by decide +kernel
theorem d_Exc_holds_118 : decode M_Exc_holds.2.1 118 = .ok (.iconst 1, 1) := by decide +kernel
theorem d_Exc_holds_119 : decode M_Exc_holds.2.1 119 = .ok (.goto 4, 3) := by decide +kernel
theorem d_Exc_holds_73 : decode M_Exc_holds.2.1 73 = .ok (.iload 4, 2) := by decide +kernel
theorem d_Exc_holds_75 : decode M_Exc_holds.2.1 75 = .ok (.iconst 1, 1) := by decide +kernel
theorem d_Exc_holds_76 : decode M_Exc_holds.2.1 76 = .ok (.ishr, 1) := by decide +kernel
theorem d_Exc_holds_77 : decode M_Exc_holds.2.1 77 = .ok (.iload 7, 2) := by decide +kernel
theorem d_Exc_holds_79 : decode M_Exc_holds.2.1 79 = .ok (.ior, 1) := by decide +kernel
theorem d_Exc_holds_80 : decode M_Exc_holds.2.1 80 = .ok (.istore 4, 2) := by decide +kernel
theorem d_Exc_holds_82 : decode M_Exc_holds.2.1 82 = .ok (.goto 44, 3) := by decide +kernel
theorem d_Exc_holds_51 : decode M_Exc_holds.2.1 51 = .ok (.iload 4, 2) := by decide +kernel
theorem d_Exc_holds_53 : decode M_Exc_holds.2.1 53 = .ok (.iconst 1, 1) := by decide +kernel
theorem d_Exc_holds_54 : decode M_Exc_holds.2.1 54 = .ok (.ishr, 1) := by decide +kernel
theorem d_Exc_holds_55 : decode M_Exc_holds.2.1 55 = .ok (.iload 7, 2) := by decide +kernel
theorem d_Exc_holds_57 : decode M_Exc_holds.2.1 57 = .ok (.bipush (-2), 2) := by decide +kernel
theorem d_Exc_holds_59 : decode M_Exc_holds.2.1 59 = .ok (.ior, 1) := by decide +kernel
theorem d_Exc_holds_60 : decode M_Exc_holds.2.1 60 = .ok (.iand, 1) := by decide +kernel
theorem d_Exc_holds_61 : decode M_Exc_holds.2.1 61 = .ok (.istore 4, 2) := by decide +kernel
theorem d_Exc_holds_63 : decode M_Exc_holds.2.1 63 = .ok (.goto 63, 3) := by decide +kernel
theorem d_Exc_holds_35 : decode M_Exc_holds.2.1 35 = .ok (.iload 4, 2) := by decide +kernel
theorem d_Exc_holds_37 : decode M_Exc_holds.2.1 37 = .ok (.iconst 1, 1) := by decide +kernel
theorem d_Exc_holds_38 : decode M_Exc_holds.2.1 38 = .ok (.ixor, 1) := by decide +kernel
theorem d_Exc_holds_39 : decode M_Exc_holds.2.1 39 = .ok (.istore 4, 2) := by decide +kernel
theorem d_Exc_holds_41 : decode M_Exc_holds.2.1 41 = .ok (.goto 85, 3) := by decide +kernel
def M_Exc_force : XM := (⟨"HandshakeBinds$Exchange", "force", "(LHandshakeBinds$Facts;)I"⟩, prog_3_method_6_code, 6, (some .int))
theorem d_Exc_force_0 : decode M_Exc_force.2.1 0 = .ok (.aload_n 1, 1) := by decide +kernel
theorem d_Exc_force_1 : decode M_Exc_force.2.1 1 = .ok (.getfield 35, 3) := by decide +kernel
theorem gf_Exc_35 : GFn "HandshakeBinds$Exchange" 35 4 4 := ⟨_, _, _, rfl, by decide, i_Fac, inNW 151 (by decide +kernel) rfl⟩
theorem d_Exc_force_4 : decode M_Exc_force.2.1 4 = .ok (.istore_n 2, 1) := by decide +kernel
theorem d_Exc_force_5 : decode M_Exc_force.2.1 5 = .ok (.iconst 0, 1) := by decide +kernel
theorem d_Exc_force_6 : decode M_Exc_force.2.1 6 = .ok (.istore_n 3, 1) := by decide +kernel
theorem d_Exc_force_7 : decode M_Exc_force.2.1 7 = .ok (.iconst 0, 1) := by decide +kernel
theorem d_Exc_force_8 : decode M_Exc_force.2.1 8 = .ok (.istore 4, 2) := by decide +kernel
theorem d_Exc_force_10 : decode M_Exc_force.2.1 10 = .ok (.iload 4, 2) := by decide +kernel
theorem d_Exc_force_12 : decode M_Exc_force.2.1 12 = .ok (.aload_n 0, 1) := by decide +kernel
theorem d_Exc_force_13 : decode M_Exc_force.2.1 13 = .ok (.getfield 28, 3) := by decide +kernel
theorem gf_Exc_28 : GF "HandshakeBinds$Exchange" 28 5 4 := ⟨_, _, _, rfl, by decide, i_Exc, inTB 229 (by decide +kernel) rfl⟩
theorem d_Exc_force_16 : decode M_Exc_force.2.1 16 = .ok (.if_icmp .ge 46, 3) := by decide +kernel
theorem d_Exc_force_62 : decode M_Exc_force.2.1 62 = .ok (.iload_n 2, 1) := by decide +kernel
theorem d_Exc_force_63 : decode M_Exc_force.2.1 63 = .ok (.ireturn, 1) := by decide +kernel
theorem d_Exc_force_19 : decode M_Exc_force.2.1 19 = .ok (.aload_n 0, 1) := by decide +kernel
theorem d_Exc_force_20 : decode M_Exc_force.2.1 20 = .ok (.getfield 15, 3) := by decide +kernel
theorem gf_Exc_15 : GF "HandshakeBinds$Exchange" 15 5 1 := ⟨_, _, _, rfl, by decide, i_Exc, inTB 226 (by decide +kernel) rfl⟩
theorem d_Exc_force_23 : decode M_Exc_force.2.1 23 = .ok (.iload 4, 2) := by decide +kernel
theorem d_Exc_force_25 : decode M_Exc_force.2.1 25 = .ok (.invokestatic 40, 3) := by decide +kernel
theorem d_Exc_force_28 : decode M_Exc_force.2.1 28 = .ok (.istore 5, 2) := by decide +kernel
theorem d_Exc_force_30 : decode M_Exc_force.2.1 30 = .ok (.aload_n 0, 1) := by decide +kernel
theorem d_Exc_force_31 : decode M_Exc_force.2.1 31 = .ok (.iload_n 3, 1) := by decide +kernel
theorem d_Exc_force_32 : decode M_Exc_force.2.1 32 = .ok (.iload 5, 2) := by decide +kernel
theorem d_Exc_force_34 : decode M_Exc_force.2.1 34 = .ok (.aload_n 1, 1) := by decide +kernel
theorem d_Exc_force_35 : decode M_Exc_force.2.1 35 = .ok (.invokevirtual 44, 3) := by decide +kernel
theorem ln_Exc_44 : Cond.methodLink "HandshakeBinds$Exchange" 44 M_Exc_holds.1 ∈ TB := inTB 448 (by decide +kernel) rfl
theorem lk_Exc_holds : LVt M_Exc_holds 3 := ⟨⟨inTB 69 (by decide +kernel) rfl, inTB 451 (by decide +kernel) rfl, ⟨by decide, by decide, by decide +kernel⟩, by decide⟩, inTB 450 (by decide +kernel) rfl, inTB 5 (by decide +kernel) rfl⟩
theorem d_Exc_force_38 : decode M_Exc_force.2.1 38 = .ok (.ifCond .eq 15, 3) := by decide +kernel
theorem d_Exc_force_53 : decode M_Exc_force.2.1 53 = .ok (.iload 5, 2) := by decide +kernel
theorem d_Exc_force_55 : decode M_Exc_force.2.1 55 = .ok (.istore_n 3, 1) := by decide +kernel
theorem d_Exc_force_56 : decode M_Exc_force.2.1 56 = .ok (.iinc 4 1, 3) := by decide +kernel
theorem d_Exc_force_59 : decode M_Exc_force.2.1 59 = .ok (.goto (-49), 3) := by decide +kernel
theorem d_Exc_force_41 : decode M_Exc_force.2.1 41 = .ok (.iload_n 2, 1) := by decide +kernel
theorem d_Exc_force_42 : decode M_Exc_force.2.1 42 = .ok (.aload_n 0, 1) := by decide +kernel
theorem d_Exc_force_43 : decode M_Exc_force.2.1 43 = .ok (.getfield 18, 3) := by decide +kernel
theorem gf_Exc_18 : GF "HandshakeBinds$Exchange" 18 5 2 := ⟨_, _, _, rfl, by decide, i_Exc, inTB 227 (by decide +kernel) rfl⟩
theorem d_Exc_force_46 : decode M_Exc_force.2.1 46 = .ok (.iload 4, 2) := by decide +kernel
theorem d_Exc_force_48 : decode M_Exc_force.2.1 48 = .ok (.invokestatic 40, 3) := by decide +kernel
theorem d_Exc_force_51 : decode M_Exc_force.2.1 51 = .ok (.iadd, 1) := by decide +kernel
theorem d_Exc_force_52 : decode M_Exc_force.2.1 52 = .ok (.istore_n 2, 1) := by decide +kernel
def M_Exc_clear : XM := (⟨"HandshakeBinds$Exchange", "clear", "()V"⟩, prog_3_method_2_code, 1, none)
theorem d_Exc_clear_0 : decode M_Exc_clear.2.1 0 = .ok (.aload_n 0, 1) := by decide +kernel
theorem d_Exc_clear_1 : decode M_Exc_clear.2.1 1 = .ok (.iconst 0, 1) := by decide +kernel
theorem d_Exc_clear_2 : decode M_Exc_clear.2.1 2 = .ok (.putfield 25, 3) := by decide +kernel
theorem pf_Exc_25 : PF "HandshakeBinds$Exchange" 25 5 3 (.int) false := ⟨_, _, _, t_Exc, rfl, by decide, i_Exc, t_Exc_ok, n_Exc, inTB 228 (by decide +kernel) rfl, rfl, t_Exc_ok 3 (by decide), fun _ => rfl⟩
theorem d_Exc_clear_5 : decode M_Exc_clear.2.1 5 = .ok (.aload_n 0, 1) := by decide +kernel
theorem d_Exc_clear_6 : decode M_Exc_clear.2.1 6 = .ok (.iconst 0, 1) := by decide +kernel
theorem d_Exc_clear_7 : decode M_Exc_clear.2.1 7 = .ok (.putfield 28, 3) := by decide +kernel
theorem pf_Exc_28 : PF "HandshakeBinds$Exchange" 28 5 4 (.int) false := ⟨_, _, _, t_Exc, rfl, by decide, i_Exc, t_Exc_ok, n_Exc, inTB 229 (by decide +kernel) rfl, rfl, t_Exc_ok 4 (by decide), fun _ => rfl⟩
theorem d_Exc_clear_10 : decode M_Exc_clear.2.1 10 = .ok (.aload_n 0, 1) := by decide +kernel
theorem d_Exc_clear_11 : decode M_Exc_clear.2.1 11 = .ok (.iconst 5, 1) := by decide +kernel
theorem d_Exc_clear_12 : decode M_Exc_clear.2.1 12 = .ok (.putfield 21, 3) := by decide +kernel
theorem pf_Exc_21 : PF "HandshakeBinds$Exchange" 21 5 5 (.int) false := ⟨_, _, _, t_Exc, rfl, by decide, i_Exc, t_Exc_ok, n_Exc, inTB 230 (by decide +kernel) rfl, rfl, t_Exc_ok 5 (by decide), fun _ => rfl⟩
theorem d_Exc_clear_15 : decode M_Exc_clear.2.1 15 = .ok (.return_, 1) := by decide +kernel
def M_Exc_addStep : XM := (⟨"HandshakeBinds$Exchange", "addStep", "(I)V"⟩, prog_3_method_3_code, 2, none)
theorem d_Exc_addStep_0 : decode M_Exc_addStep.2.1 0 = .ok (.aload_n 0, 1) := by decide +kernel
theorem d_Exc_addStep_1 : decode M_Exc_addStep.2.1 1 = .ok (.getfield 9, 3) := by decide +kernel
theorem d_Exc_addStep_4 : decode M_Exc_addStep.2.1 4 = .ok (.aload_n 0, 1) := by decide +kernel
theorem d_Exc_addStep_5 : decode M_Exc_addStep.2.1 5 = .ok (.getfield 25, 3) := by decide +kernel
theorem gf_Exc_25 : GF "HandshakeBinds$Exchange" 25 5 3 := ⟨_, _, _, rfl, by decide, i_Exc, inTB 228 (by decide +kernel) rfl⟩
theorem d_Exc_addStep_8 : decode M_Exc_addStep.2.1 8 = .ok (.iload_n 1, 1) := by decide +kernel
theorem d_Exc_addStep_9 : decode M_Exc_addStep.2.1 9 = .ok (.invokestatic 31, 3) := by decide +kernel
theorem ln_Exc_31 : Cond.methodLinkNest "HandshakeBinds$Exchange" 31 M_HB_put.1 "HandshakeBinds" ∈ NW := inNW 603 (by decide +kernel) rfl
theorem d_Exc_addStep_12 : decode M_Exc_addStep.2.1 12 = .ok (.aload_n 0, 1) := by decide +kernel
theorem d_Exc_addStep_13 : decode M_Exc_addStep.2.1 13 = .ok (.dup, 1) := by decide +kernel
theorem d_Exc_addStep_14 : decode M_Exc_addStep.2.1 14 = .ok (.getfield 25, 3) := by decide +kernel
theorem d_Exc_addStep_17 : decode M_Exc_addStep.2.1 17 = .ok (.iconst 1, 1) := by decide +kernel
theorem d_Exc_addStep_18 : decode M_Exc_addStep.2.1 18 = .ok (.iadd, 1) := by decide +kernel
theorem d_Exc_addStep_19 : decode M_Exc_addStep.2.1 19 = .ok (.putfield 25, 3) := by decide +kernel
theorem d_Exc_addStep_22 : decode M_Exc_addStep.2.1 22 = .ok (.return_, 1) := by decide +kernel
def M_Exc_addTest : XM := (⟨"HandshakeBinds$Exchange", "addTest", "(III)V"⟩, prog_3_method_4_code, 4, none)
theorem d_Exc_addTest_0 : decode M_Exc_addTest.2.1 0 = .ok (.aload_n 0, 1) := by decide +kernel
theorem d_Exc_addTest_1 : decode M_Exc_addTest.2.1 1 = .ok (.getfield 9, 3) := by decide +kernel
theorem d_Exc_addTest_4 : decode M_Exc_addTest.2.1 4 = .ok (.aload_n 0, 1) := by decide +kernel
theorem d_Exc_addTest_5 : decode M_Exc_addTest.2.1 5 = .ok (.getfield 25, 3) := by decide +kernel
theorem d_Exc_addTest_8 : decode M_Exc_addTest.2.1 8 = .ok (.iload_n 1, 1) := by decide +kernel
theorem d_Exc_addTest_9 : decode M_Exc_addTest.2.1 9 = .ok (.bipush 14, 2) := by decide +kernel
theorem d_Exc_addTest_11 : decode M_Exc_addTest.2.1 11 = .ok (.ishl, 1) := by decide +kernel
theorem d_Exc_addTest_12 : decode M_Exc_addTest.2.1 12 = .ok (.iload_n 2, 1) := by decide +kernel
theorem d_Exc_addTest_13 : decode M_Exc_addTest.2.1 13 = .ok (.bipush 7, 2) := by decide +kernel
theorem d_Exc_addTest_15 : decode M_Exc_addTest.2.1 15 = .ok (.ishl, 1) := by decide +kernel
theorem d_Exc_addTest_16 : decode M_Exc_addTest.2.1 16 = .ok (.ior, 1) := by decide +kernel
theorem d_Exc_addTest_17 : decode M_Exc_addTest.2.1 17 = .ok (.iload_n 3, 1) := by decide +kernel
theorem d_Exc_addTest_18 : decode M_Exc_addTest.2.1 18 = .ok (.ior, 1) := by decide +kernel
theorem d_Exc_addTest_19 : decode M_Exc_addTest.2.1 19 = .ok (.invokestatic 31, 3) := by decide +kernel
theorem d_Exc_addTest_22 : decode M_Exc_addTest.2.1 22 = .ok (.aload_n 0, 1) := by decide +kernel
theorem d_Exc_addTest_23 : decode M_Exc_addTest.2.1 23 = .ok (.dup, 1) := by decide +kernel
theorem d_Exc_addTest_24 : decode M_Exc_addTest.2.1 24 = .ok (.getfield 25, 3) := by decide +kernel
theorem d_Exc_addTest_27 : decode M_Exc_addTest.2.1 27 = .ok (.iconst 1, 1) := by decide +kernel
theorem d_Exc_addTest_28 : decode M_Exc_addTest.2.1 28 = .ok (.iadd, 1) := by decide +kernel
theorem d_Exc_addTest_29 : decode M_Exc_addTest.2.1 29 = .ok (.putfield 25, 3) := by decide +kernel
theorem d_Exc_addTest_32 : decode M_Exc_addTest.2.1 32 = .ok (.return_, 1) := by decide +kernel
def M_Exc_endClause : XM := (⟨"HandshakeBinds$Exchange", "endClause", "(I)V"⟩, prog_3_method_5_code, 2, none)
theorem d_Exc_endClause_0 : decode M_Exc_endClause.2.1 0 = .ok (.aload_n 0, 1) := by decide +kernel
theorem d_Exc_endClause_1 : decode M_Exc_endClause.2.1 1 = .ok (.getfield 15, 3) := by decide +kernel
theorem d_Exc_endClause_4 : decode M_Exc_endClause.2.1 4 = .ok (.aload_n 0, 1) := by decide +kernel
theorem d_Exc_endClause_5 : decode M_Exc_endClause.2.1 5 = .ok (.getfield 28, 3) := by decide +kernel
theorem d_Exc_endClause_8 : decode M_Exc_endClause.2.1 8 = .ok (.aload_n 0, 1) := by decide +kernel
theorem d_Exc_endClause_9 : decode M_Exc_endClause.2.1 9 = .ok (.getfield 25, 3) := by decide +kernel
theorem d_Exc_endClause_12 : decode M_Exc_endClause.2.1 12 = .ok (.invokestatic 31, 3) := by decide +kernel
theorem d_Exc_endClause_15 : decode M_Exc_endClause.2.1 15 = .ok (.aload_n 0, 1) := by decide +kernel
theorem d_Exc_endClause_16 : decode M_Exc_endClause.2.1 16 = .ok (.getfield 18, 3) := by decide +kernel
theorem d_Exc_endClause_19 : decode M_Exc_endClause.2.1 19 = .ok (.aload_n 0, 1) := by decide +kernel
theorem d_Exc_endClause_20 : decode M_Exc_endClause.2.1 20 = .ok (.getfield 28, 3) := by decide +kernel
theorem d_Exc_endClause_23 : decode M_Exc_endClause.2.1 23 = .ok (.iload_n 1, 1) := by decide +kernel
theorem d_Exc_endClause_24 : decode M_Exc_endClause.2.1 24 = .ok (.invokestatic 31, 3) := by decide +kernel
theorem d_Exc_endClause_27 : decode M_Exc_endClause.2.1 27 = .ok (.aload_n 0, 1) := by decide +kernel
theorem d_Exc_endClause_28 : decode M_Exc_endClause.2.1 28 = .ok (.dup, 1) := by decide +kernel
theorem d_Exc_endClause_29 : decode M_Exc_endClause.2.1 29 = .ok (.getfield 28, 3) := by decide +kernel
theorem d_Exc_endClause_32 : decode M_Exc_endClause.2.1 32 = .ok (.iconst 1, 1) := by decide +kernel
theorem d_Exc_endClause_33 : decode M_Exc_endClause.2.1 33 = .ok (.iadd, 1) := by decide +kernel
theorem d_Exc_endClause_34 : decode M_Exc_endClause.2.1 34 = .ok (.putfield 28, 3) := by decide +kernel
theorem d_Exc_endClause_37 : decode M_Exc_endClause.2.1 37 = .ok (.return_, 1) := by decide +kernel
def M_Tap_has : XM := (⟨"HandshakeBinds$Tape", "has", "(I)Z"⟩, prog_9_method_3_code, 2, (some .boolean))
theorem d_Tap_has_0 : decode M_Tap_has.2.1 0 = .ok (.iload_n 1, 1) := by decide +kernel
theorem d_Tap_has_1 : decode M_Tap_has.2.1 1 = .ok (.ifCond .lt 24, 3) := by decide +kernel
theorem d_Tap_has_25 : decode M_Tap_has.2.1 25 = .ok (.iconst 0, 1) := by decide +kernel
theorem d_Tap_has_26 : decode M_Tap_has.2.1 26 = .ok (.ireturn, 1) := by decide +kernel
theorem d_Tap_has_4 : decode M_Tap_has.2.1 4 = .ok (.iload_n 1, 1) := by decide +kernel
theorem d_Tap_has_5 : decode M_Tap_has.2.1 5 = .ok (.aload_n 0, 1) := by decide +kernel
theorem d_Tap_has_6 : decode M_Tap_has.2.1 6 = .ok (.getfield 28, 3) := by decide +kernel
theorem gf_Tap_28 : GF "HandshakeBinds$Tape" 28 8 2 := ⟨_, _, _, rfl, by decide, i_Tap, inTB 307 (by decide +kernel) rfl⟩
theorem d_Tap_has_9 : decode M_Tap_has.2.1 9 = .ok (.if_icmp .ge 16, 3) := by decide +kernel
theorem d_Tap_has_12 : decode M_Tap_has.2.1 12 = .ok (.iload_n 1, 1) := by decide +kernel
theorem d_Tap_has_13 : decode M_Tap_has.2.1 13 = .ok (.aload_n 0, 1) := by decide +kernel
theorem d_Tap_has_14 : decode M_Tap_has.2.1 14 = .ok (.getfield 9, 3) := by decide +kernel
theorem gf_Tap_9 : GF "HandshakeBinds$Tape" 9 8 0 := ⟨_, _, _, rfl, by decide, i_Tap, inTB 303 (by decide +kernel) rfl⟩
theorem d_Tap_has_17 : decode M_Tap_has.2.1 17 = .ok (.arraylength, 1) := by decide +kernel
theorem d_Tap_has_18 : decode M_Tap_has.2.1 18 = .ok (.if_icmp .ge 7, 3) := by decide +kernel
theorem d_Tap_has_21 : decode M_Tap_has.2.1 21 = .ok (.iconst 1, 1) := by decide +kernel
theorem d_Tap_has_22 : decode M_Tap_has.2.1 22 = .ok (.goto 4, 3) := by decide +kernel
def M_Tap_cut : XM := (⟨"HandshakeBinds$Tape", "cut", "(J)J"⟩, prog_9_method_7_code, 3, (some .long))
theorem d_Tap_cut_0 : decode M_Tap_cut.2.1 0 = .ok (.aload_n 0, 1) := by decide +kernel
theorem d_Tap_cut_1 : decode M_Tap_cut.2.1 1 = .ok (.getfield 15, 3) := by decide +kernel
theorem gf_Tap_15 : GF "HandshakeBinds$Tape" 15 8 1 := ⟨_, _, _, rfl, by decide, i_Tap, inTB 305 (by decide +kernel) rfl⟩
theorem d_Tap_cut_4 : decode M_Tap_cut.2.1 4 = .ok (.tableswitch 62 0 4 #[36, 41, 46, 62, 50], 36) := by decide +kernel
theorem d_Tap_cut_40 : decode M_Tap_cut.2.1 40 = .ok (.lload_n 1, 1) := by decide +kernel
theorem d_Tap_cut_41 : decode M_Tap_cut.2.1 41 = .ok (.l2i, 1) := by decide +kernel
theorem d_Tap_cut_42 : decode M_Tap_cut.2.1 42 = .ok (.i2b, 1) := by decide +kernel
theorem d_Tap_cut_43 : decode M_Tap_cut.2.1 43 = .ok (.i2l, 1) := by decide +kernel
theorem d_Tap_cut_44 : decode M_Tap_cut.2.1 44 = .ok (.lreturn, 1) := by decide +kernel
theorem d_Tap_cut_45 : decode M_Tap_cut.2.1 45 = .ok (.lload_n 1, 1) := by decide +kernel
theorem d_Tap_cut_46 : decode M_Tap_cut.2.1 46 = .ok (.l2i, 1) := by decide +kernel
theorem d_Tap_cut_47 : decode M_Tap_cut.2.1 47 = .ok (.i2s, 1) := by decide +kernel
theorem d_Tap_cut_48 : decode M_Tap_cut.2.1 48 = .ok (.i2l, 1) := by decide +kernel
theorem d_Tap_cut_49 : decode M_Tap_cut.2.1 49 = .ok (.lreturn, 1) := by decide +kernel
theorem d_Tap_cut_50 : decode M_Tap_cut.2.1 50 = .ok (.lload_n 1, 1) := by decide +kernel
theorem d_Tap_cut_51 : decode M_Tap_cut.2.1 51 = .ok (.l2i, 1) := by decide +kernel
theorem d_Tap_cut_52 : decode M_Tap_cut.2.1 52 = .ok (.i2l, 1) := by decide +kernel
theorem d_Tap_cut_53 : decode M_Tap_cut.2.1 53 = .ok (.lreturn, 1) := by decide +kernel
theorem d_Tap_cut_66 : decode M_Tap_cut.2.1 66 = .ok (.lload_n 1, 1) := by decide +kernel
theorem d_Tap_cut_67 : decode M_Tap_cut.2.1 67 = .ok (.lreturn, 1) := by decide +kernel
theorem d_Tap_cut_54 : decode M_Tap_cut.2.1 54 = .ok (.lload_n 1, 1) := by decide +kernel
theorem d_Tap_cut_55 : decode M_Tap_cut.2.1 55 = .ok (.lconst 0, 1) := by decide +kernel
theorem d_Tap_cut_56 : decode M_Tap_cut.2.1 56 = .ok (.lcmp, 1) := by decide +kernel
theorem d_Tap_cut_57 : decode M_Tap_cut.2.1 57 = .ok (.ifCond .eq 7, 3) := by decide +kernel
theorem d_Tap_cut_64 : decode M_Tap_cut.2.1 64 = .ok (.lconst 0, 1) := by decide +kernel
theorem d_Tap_cut_65 : decode M_Tap_cut.2.1 65 = .ok (.lreturn, 1) := by decide +kernel
theorem d_Tap_cut_60 : decode M_Tap_cut.2.1 60 = .ok (.lconst 1, 1) := by decide +kernel
theorem d_Tap_cut_61 : decode M_Tap_cut.2.1 61 = .ok (.goto 4, 3) := by decide +kernel
def M_Tap_become : XM := (⟨"HandshakeBinds$Tape", "become", "(II)V"⟩, prog_9_method_2_code, 4, none)
theorem d_Tap_become_0 : decode M_Tap_become.2.1 0 = .ok (.aload_n 0, 1) := by decide +kernel
theorem d_Tap_become_1 : decode M_Tap_become.2.1 1 = .ok (.iload_n 1, 1) := by decide +kernel
theorem d_Tap_become_2 : decode M_Tap_become.2.1 2 = .ok (.putfield 15, 3) := by decide +kernel
theorem pf_Tap_15 : PF "HandshakeBinds$Tape" 15 8 1 (.int) false := ⟨_, _, _, t_Tap, rfl, by decide, i_Tap, t_Tap_ok, n_Tap, inTB 305 (by decide +kernel) rfl, rfl, t_Tap_ok 1 (by decide), fun _ => rfl⟩
theorem d_Tap_become_5 : decode M_Tap_become.2.1 5 = .ok (.aload_n 0, 1) := by decide +kernel
theorem d_Tap_become_6 : decode M_Tap_become.2.1 6 = .ok (.iconst 0, 1) := by decide +kernel
theorem d_Tap_become_7 : decode M_Tap_become.2.1 7 = .ok (.iload_n 2, 1) := by decide +kernel
theorem d_Tap_become_8 : decode M_Tap_become.2.1 8 = .ok (.aload_n 0, 1) := by decide +kernel
theorem d_Tap_become_9 : decode M_Tap_become.2.1 9 = .ok (.getfield 9, 3) := by decide +kernel
theorem d_Tap_become_12 : decode M_Tap_become.2.1 12 = .ok (.arraylength, 1) := by decide +kernel
theorem d_Tap_become_13 : decode M_Tap_become.2.1 13 = .ok (.invokestatic 19, 3) := by decide +kernel
theorem d_Tap_become_16 : decode M_Tap_become.2.1 16 = .ok (.invokestatic 25, 3) := by decide +kernel
theorem d_Tap_become_19 : decode M_Tap_become.2.1 19 = .ok (.putfield 28, 3) := by decide +kernel
theorem pf_Tap_28 : PF "HandshakeBinds$Tape" 28 8 2 (.int) false := ⟨_, _, _, t_Tap, rfl, by decide, i_Tap, t_Tap_ok, n_Tap, inTB 307 (by decide +kernel) rfl, rfl, t_Tap_ok 2 (by decide), fun _ => rfl⟩
theorem d_Tap_become_22 : decode M_Tap_become.2.1 22 = .ok (.iconst 0, 1) := by decide +kernel
theorem d_Tap_become_23 : decode M_Tap_become.2.1 23 = .ok (.istore_n 3, 1) := by decide +kernel
theorem d_Tap_become_24 : decode M_Tap_become.2.1 24 = .ok (.iload_n 3, 1) := by decide +kernel
theorem d_Tap_become_25 : decode M_Tap_become.2.1 25 = .ok (.aload_n 0, 1) := by decide +kernel
theorem d_Tap_become_26 : decode M_Tap_become.2.1 26 = .ok (.getfield 9, 3) := by decide +kernel
theorem d_Tap_become_29 : decode M_Tap_become.2.1 29 = .ok (.arraylength, 1) := by decide +kernel
theorem d_Tap_become_30 : decode M_Tap_become.2.1 30 = .ok (.if_icmp .ge 16, 3) := by decide +kernel
theorem d_Tap_become_46 : decode M_Tap_become.2.1 46 = .ok (.return_, 1) := by decide +kernel
theorem d_Tap_become_33 : decode M_Tap_become.2.1 33 = .ok (.aload_n 0, 1) := by decide +kernel
theorem d_Tap_become_34 : decode M_Tap_become.2.1 34 = .ok (.getfield 9, 3) := by decide +kernel
theorem d_Tap_become_37 : decode M_Tap_become.2.1 37 = .ok (.iload_n 3, 1) := by decide +kernel
theorem d_Tap_become_38 : decode M_Tap_become.2.1 38 = .ok (.lconst 0, 1) := by decide +kernel
theorem d_Tap_become_39 : decode M_Tap_become.2.1 39 = .ok (.lastore, 1) := by decide +kernel
theorem d_Tap_become_40 : decode M_Tap_become.2.1 40 = .ok (.iinc 3 1, 3) := by decide +kernel
theorem d_Tap_become_43 : decode M_Tap_become.2.1 43 = .ok (.goto (-19), 3) := by decide +kernel
def M_Tap_get : XM := (⟨"HandshakeBinds$Tape", "get", "(I)J"⟩, prog_9_method_5_code, 2, (some .long))
theorem d_Tap_get_0 : decode M_Tap_get.2.1 0 = .ok (.aload_n 0, 1) := by decide +kernel
theorem d_Tap_get_1 : decode M_Tap_get.2.1 1 = .ok (.iload_n 1, 1) := by decide +kernel
theorem d_Tap_get_2 : decode M_Tap_get.2.1 2 = .ok (.invokevirtual 31, 3) := by decide +kernel
theorem ln_Tap_31 : Cond.methodLink "HandshakeBinds$Tape" 31 M_Tap_has.1 ∈ TB := inTB 749 (by decide +kernel) rfl
theorem lk_Tap_has : LVt M_Tap_has 1 := ⟨⟨inTB 71 (by decide +kernel) rfl, inTB 752 (by decide +kernel) rfl, ⟨by decide, by decide, by decide +kernel⟩, by decide⟩, inTB 750 (by decide +kernel) rfl, inTB 751 (by decide +kernel) rfl⟩
theorem d_Tap_get_5 : decode M_Tap_get.2.1 5 = .ok (.ifCond .eq 12, 3) := by decide +kernel
theorem d_Tap_get_8 : decode M_Tap_get.2.1 8 = .ok (.aload_n 0, 1) := by decide +kernel
theorem d_Tap_get_9 : decode M_Tap_get.2.1 9 = .ok (.getfield 9, 3) := by decide +kernel
theorem d_Tap_get_12 : decode M_Tap_get.2.1 12 = .ok (.iload_n 1, 1) := by decide +kernel
theorem d_Tap_get_13 : decode M_Tap_get.2.1 13 = .ok (.laload, 1) := by decide +kernel
theorem d_Tap_get_14 : decode M_Tap_get.2.1 14 = .ok (.goto 4, 3) := by decide +kernel
theorem d_Tap_get_18 : decode M_Tap_get.2.1 18 = .ok (.lreturn, 1) := by decide +kernel
def M_Tap_set : XM := (⟨"HandshakeBinds$Tape", "set", "(IJ)V"⟩, prog_9_method_6_code, 4, none)
theorem d_Tap_set_0 : decode M_Tap_set.2.1 0 = .ok (.aload_n 0, 1) := by decide +kernel
theorem d_Tap_set_1 : decode M_Tap_set.2.1 1 = .ok (.iload_n 1, 1) := by decide +kernel
theorem d_Tap_set_2 : decode M_Tap_set.2.1 2 = .ok (.invokevirtual 31, 3) := by decide +kernel
theorem d_Tap_set_5 : decode M_Tap_set.2.1 5 = .ok (.ifCond .eq 14, 3) := by decide +kernel
theorem d_Tap_set_8 : decode M_Tap_set.2.1 8 = .ok (.aload_n 0, 1) := by decide +kernel
theorem d_Tap_set_9 : decode M_Tap_set.2.1 9 = .ok (.getfield 9, 3) := by decide +kernel
theorem d_Tap_set_12 : decode M_Tap_set.2.1 12 = .ok (.iload_n 1, 1) := by decide +kernel
theorem d_Tap_set_13 : decode M_Tap_set.2.1 13 = .ok (.aload_n 0, 1) := by decide +kernel
theorem d_Tap_set_14 : decode M_Tap_set.2.1 14 = .ok (.lload_n 2, 1) := by decide +kernel
theorem d_Tap_set_15 : decode M_Tap_set.2.1 15 = .ok (.invokevirtual 35, 3) := by decide +kernel
theorem ln_Tap_35 : Cond.methodLink "HandshakeBinds$Tape" 35 M_Tap_cut.1 ∈ TB := inTB 827 (by decide +kernel) rfl
theorem lk_Tap_cut : LVt M_Tap_cut 1 := ⟨⟨inTB 71 (by decide +kernel) rfl, inTB 830 (by decide +kernel) rfl, ⟨by decide, by decide, by decide +kernel⟩, by decide⟩, inTB 829 (by decide +kernel) rfl, inTB 19 (by decide +kernel) rfl⟩
theorem d_Tap_set_18 : decode M_Tap_set.2.1 18 = .ok (.lastore, 1) := by decide +kernel
theorem d_Tap_set_19 : decode M_Tap_set.2.1 19 = .ok (.return_, 1) := by decide +kernel
def M_Tap_hasRun : XM := (⟨"HandshakeBinds$Tape", "hasRun", "(II)Z"⟩, prog_9_method_4_code, 3, (some .boolean))
theorem d_Tap_hasRun_0 : decode M_Tap_hasRun.2.1 0 = .ok (.iload_n 2, 1) := by decide +kernel
theorem d_Tap_hasRun_1 : decode M_Tap_hasRun.2.1 1 = .ok (.ifCond .lt 29, 3) := by decide +kernel
theorem d_Tap_hasRun_30 : decode M_Tap_hasRun.2.1 30 = .ok (.iconst 0, 1) := by decide +kernel
theorem d_Tap_hasRun_31 : decode M_Tap_hasRun.2.1 31 = .ok (.ireturn, 1) := by decide +kernel
theorem d_Tap_hasRun_4 : decode M_Tap_hasRun.2.1 4 = .ok (.iload_n 1, 1) := by decide +kernel
theorem d_Tap_hasRun_5 : decode M_Tap_hasRun.2.1 5 = .ok (.ifCond .lt 25, 3) := by decide +kernel
theorem d_Tap_hasRun_8 : decode M_Tap_hasRun.2.1 8 = .ok (.iload_n 2, 1) := by decide +kernel
theorem d_Tap_hasRun_9 : decode M_Tap_hasRun.2.1 9 = .ok (.aload_n 0, 1) := by decide +kernel
theorem d_Tap_hasRun_10 : decode M_Tap_hasRun.2.1 10 = .ok (.getfield 28, 3) := by decide +kernel
theorem d_Tap_hasRun_13 : decode M_Tap_hasRun.2.1 13 = .ok (.if_icmp .gt 17, 3) := by decide +kernel
theorem d_Tap_hasRun_16 : decode M_Tap_hasRun.2.1 16 = .ok (.iload_n 1, 1) := by decide +kernel
theorem d_Tap_hasRun_17 : decode M_Tap_hasRun.2.1 17 = .ok (.aload_n 0, 1) := by decide +kernel
theorem d_Tap_hasRun_18 : decode M_Tap_hasRun.2.1 18 = .ok (.getfield 28, 3) := by decide +kernel
theorem d_Tap_hasRun_21 : decode M_Tap_hasRun.2.1 21 = .ok (.iload_n 2, 1) := by decide +kernel
theorem d_Tap_hasRun_22 : decode M_Tap_hasRun.2.1 22 = .ok (.isub, 1) := by decide +kernel
theorem d_Tap_hasRun_23 : decode M_Tap_hasRun.2.1 23 = .ok (.if_icmp .gt 7, 3) := by decide +kernel
theorem d_Tap_hasRun_26 : decode M_Tap_hasRun.2.1 26 = .ok (.iconst 1, 1) := by decide +kernel
theorem d_Tap_hasRun_27 : decode M_Tap_hasRun.2.1 27 = .ok (.goto 4, 3) := by decide +kernel
theorem c_Rws_cell (X : Xn) (L : Nat)  (a : Nat → Nat) (ν : Nat → Nat → Nat) (σ : Nat → Nat → Int32) (τ : Nat → Nat → Int64)  (i : Nat) (c : Nat) (hi : 5 * i + c < L) (hL : L < 1000) : Does X 2 M_Rws_cell [.ref (a 0), .int (nI i), .int (nI c)] (RW X L a ν σ τ) 0 0 (fun (vv : Option Value) (ww : va_W) => vv = some (.int ((σ 1) (5 * i + c))) ∧ ww = RW X L a ν σ τ) := by
  generalize hQ : (fun (vv : Option Value) (ww : va_W) => vv = some (.int ((σ 1) (5 * i + c))) ∧ ww = RW X L a ν σ τ) = Q
  refine Does.go rfl (Nat.le_of_ble_eq_true rfl) [some (.ref (a 0)), some (.int (nI i)), some (.int (nI c))] 0 rfl ?_
  refine r_aload_n rfl 1 rfl d_Rws_cell_0 ?_
  refine r_getf (v := .ref (a 1)) gf_Rws_15 0 rfl rfl 4 rfl d_Rws_cell_1 ?_
  refine r_iload_n rfl 5 rfl d_Rws_cell_4 ?_
  refine r_iconst (nI 5) rfl 6 rfl d_Rws_cell_5 ?_
  refine r_imul 7 rfl d_Rws_cell_6 ?_
  refine r_topi (nI (i * 5)) (pk_mul _ _) ?_
  refine r_iload_n rfl 8 rfl d_Rws_cell_7 ?_
  refine r_iadd 9 rfl d_Rws_cell_8 ?_
  refine r_topi (nI ((i * 5) + c)) (nI_add _ _) ?_
  refine r_callSn1 (st2 := [.int (σ 1 ((i * 5) + c))]) (w2 := RW X L a ν σ τ) lk_HB_at ln_Rws_23 (c_at X _ L ((i * 5) + c) (σ 1) (by omega) (by omega)) (by first | decide | omega) rfl rfl (Nat.le_of_ble_eq_true rfl) (Nat.le_of_ble_eq_true rfl) (Nat.le_of_ble_eq_true rfl) [1] rfl rfl rfl rfl rfl 12 rfl d_Rws_cell_9 ?_
  exact r_iret rfl (Nat.zero_le _) (Nat.zero_le _) d_Rws_cell_12 (by rw [← hQ]; exact ⟨by rw [Nat.mul_comm i 5], rfl⟩)
theorem c_Rws_add1 (X : Xn) (L : Nat)  (a : Nat → Nat) (ν : Nat → Nat → Nat) (σ : Nat → Nat → Int32) (τ : Nat → Nat → Int64)  (x0 : Int32) (x1 : Int32) (x2 : Int32) (x3 : Int32) (x4 : Int32) (hs : 5 * (ν 0 1) + 5 ≤ L) (hL : 5 ≤ L ∧ L < 1000) (hs2 : ν 0 1 < 1000) : Does X 1 M_Rws_add [.ref (a 0), .int x0, .int x1, .int x2, .int x3, .int x4] (RW X L a ν σ τ) 0 0 (fun (vv : Option Value) (ww : va_W) => vv = some (.int (nI 1)) ∧ ww = RW X L a (pu ν 0 (u1 (ν 0) 1 ((ν 0 1) + 1))) (u2 σ 1 (upd (upd (upd (upd (upd ((σ 1)) (5 * (ν 0 1)) x0) (5 * (ν 0 1) + 1) x1) (5 * (ν 0 1) + 2) x2) (5 * (ν 0 1) + 3) x3) (5 * (ν 0 1) + 4) x4)) τ) := by
  generalize hQ : (fun (vv : Option Value) (ww : va_W) => vv = some (.int (nI 1)) ∧ ww = RW X L a (pu ν 0 (u1 (ν 0) 1 ((ν 0 1) + 1))) (u2 σ 1 (upd (upd (upd (upd (upd ((σ 1)) (5 * (ν 0 1)) x0) (5 * (ν 0 1) + 1) x1) (5 * (ν 0 1) + 2) x2) (5 * (ν 0 1) + 3) x3) (5 * (ν 0 1) + 4) x4)) τ) = Q
  refine Does.go rfl (Nat.le_of_ble_eq_true rfl) [some (.ref (a 0)), some (.int x0), some (.int x1), some (.int x2), some (.int x3), some (.int x4), none] 1 rfl ?_
  obtain ⟨hL5, hL9⟩ := hL
  refine r_aload_n rfl 1 rfl d_Rws_add_0 ?_
  refine r_getf (v := .int (nI (ν 0 1))) gf_Rws_19 0 rfl rfl 4 rfl d_Rws_add_1 ?_
  refine r_iconst (nI 5) rfl 5 rfl d_Rws_add_4 ?_
  refine r_imul 6 rfl d_Rws_add_5 ?_
  refine r_topi (nI ((ν 0 1) * 5)) (pk_mul _ _) ?_
  refine r_istore (ls2 := [some (.ref (a 0)), some (.int x0), some (.int x1), some (.int x2), some (.int x3), some (.int x4), some (.int (nI ((ν 0 1) * 5)))]) 8 rfl d_Rws_add_6 (by decide) rfl rfl ?_
  refine r_iload rfl 10 rfl d_Rws_add_8 ?_
  refine r_if_ltN_f ((ν 0 1) * 5) (by omega) 13 rfl 25 rfl d_Rws_add_10 (Nat.zero_le _) ?_
  refine r_iload rfl 15 rfl d_Rws_add_13 ?_
  refine r_aload_n rfl 16 rfl d_Rws_add_15 ?_
  refine r_getf (v := .ref (a 1)) gf_Rws_15 0 rfl rfl 19 rfl d_Rws_add_16 ?_
  refine r_alenI 1 rfl 20 rfl d_Rws_add_19 ?_
  refine r_iconst (nI 5) rfl 21 rfl d_Rws_add_20 ?_
  refine r_isub 22 rfl d_Rws_add_21 ?_
  refine r_topi (nI (L - 5)) (pk_sub hL5) ?_
  refine r_icmp_leN_t ((ν 0 1) * 5) (L - 5) (by omega) (by omega) 27 rfl d_Rws_add_22 (by omega) ?_
  refine r_aload_n rfl 28 rfl d_Rws_add_27 ?_
  refine r_getf (v := .ref (a 1)) gf_Rws_15 0 rfl rfl 31 rfl d_Rws_add_28 ?_
  refine r_iload rfl 33 rfl d_Rws_add_31 ?_
  refine r_iload_n rfl 34 rfl d_Rws_add_33 ?_
  refine r_iast (w2 := RW X L a ν (u2 σ 1 (upd (σ 1) ((ν 0 1) * 5) x0)) τ) 1 rfl ((ν 0 1) * 5) rfl (by omega) (by omega) rfl 35 rfl d_Rws_add_34 ?_
  refine r_aload_n rfl 36 rfl d_Rws_add_35 ?_
  refine r_getf (v := .ref (a 1)) gf_Rws_15 0 rfl rfl 39 rfl d_Rws_add_36 ?_
  refine r_iload rfl 41 rfl d_Rws_add_39 ?_
  refine r_iconst (nI 1) rfl 42 rfl d_Rws_add_41 ?_
  refine r_iadd 43 rfl d_Rws_add_42 ?_
  refine r_topi (nI (((ν 0 1) * 5) + 1)) (nI_add _ _) ?_
  refine r_iload_n rfl 44 rfl d_Rws_add_43 ?_
  refine r_iast (w2 := RW X L a ν (u2 (u2 σ 1 (upd (σ 1) ((ν 0 1) * 5) x0)) 1 (upd (upd (σ 1) ((ν 0 1) * 5) x0) (((ν 0 1) * 5) + 1) x1)) τ) 1 rfl (((ν 0 1) * 5) + 1) rfl (by omega) (by omega) rfl 45 rfl d_Rws_add_44 ?_
  refine r_aload_n rfl 46 rfl d_Rws_add_45 ?_
  refine r_getf (v := .ref (a 1)) gf_Rws_15 0 rfl rfl 49 rfl d_Rws_add_46 ?_
  refine r_iload rfl 51 rfl d_Rws_add_49 ?_
  refine r_iconst (nI 2) rfl 52 rfl d_Rws_add_51 ?_
  refine r_iadd 53 rfl d_Rws_add_52 ?_
  refine r_topi (nI (((ν 0 1) * 5) + 2)) (nI_add _ _) ?_
  refine r_iload_n rfl 54 rfl d_Rws_add_53 ?_
  refine r_iast (w2 := RW X L a ν (u2 (u2 (u2 σ 1 (upd (σ 1) ((ν 0 1) * 5) x0)) 1 (upd (upd (σ 1) ((ν 0 1) * 5) x0) (((ν 0 1) * 5) + 1) x1)) 1 (upd (upd (upd (σ 1) ((ν 0 1) * 5) x0) (((ν 0 1) * 5) + 1) x1) (((ν 0 1) * 5) + 2) x2)) τ) 1 rfl (((ν 0 1) * 5) + 2) rfl (by omega) (by omega) rfl 55 rfl d_Rws_add_54 ?_
  refine r_aload_n rfl 56 rfl d_Rws_add_55 ?_
  refine r_getf (v := .ref (a 1)) gf_Rws_15 0 rfl rfl 59 rfl d_Rws_add_56 ?_
  refine r_iload rfl 61 rfl d_Rws_add_59 ?_
  refine r_iconst (nI 3) rfl 62 rfl d_Rws_add_61 ?_
  refine r_iadd 63 rfl d_Rws_add_62 ?_
  refine r_topi (nI (((ν 0 1) * 5) + 3)) (nI_add _ _) ?_
  refine r_iload rfl 65 rfl d_Rws_add_63 ?_
  refine r_iast (w2 := RW X L a ν (u2 (u2 (u2 (u2 σ 1 (upd (σ 1) ((ν 0 1) * 5) x0)) 1 (upd (upd (σ 1) ((ν 0 1) * 5) x0) (((ν 0 1) * 5) + 1) x1)) 1 (upd (upd (upd (σ 1) ((ν 0 1) * 5) x0) (((ν 0 1) * 5) + 1) x1) (((ν 0 1) * 5) + 2) x2)) 1 (upd (upd (upd (upd (σ 1) ((ν 0 1) * 5) x0) (((ν 0 1) * 5) + 1) x1) (((ν 0 1) * 5) + 2) x2) (((ν 0 1) * 5) + 3) x3)) τ) 1 rfl (((ν 0 1) * 5) + 3) rfl (by omega) (by omega) rfl 66 rfl d_Rws_add_65 ?_
  refine r_aload_n rfl 67 rfl d_Rws_add_66 ?_
  refine r_getf (v := .ref (a 1)) gf_Rws_15 0 rfl rfl 70 rfl d_Rws_add_67 ?_
  refine r_iload rfl 72 rfl d_Rws_add_70 ?_
  refine r_iconst (nI 4) rfl 73 rfl d_Rws_add_72 ?_
  refine r_iadd 74 rfl d_Rws_add_73 ?_
  refine r_topi (nI (((ν 0 1) * 5) + 4)) (nI_add _ _) ?_
  refine r_iload rfl 76 rfl d_Rws_add_74 ?_
  refine r_iast (w2 := RW X L a ν (u2 (u2 (u2 (u2 (u2 σ 1 (upd (σ 1) ((ν 0 1) * 5) x0)) 1 (upd (upd (σ 1) ((ν 0 1) * 5) x0) (((ν 0 1) * 5) + 1) x1)) 1 (upd (upd (upd (σ 1) ((ν 0 1) * 5) x0) (((ν 0 1) * 5) + 1) x1) (((ν 0 1) * 5) + 2) x2)) 1 (upd (upd (upd (upd (σ 1) ((ν 0 1) * 5) x0) (((ν 0 1) * 5) + 1) x1) (((ν 0 1) * 5) + 2) x2) (((ν 0 1) * 5) + 3) x3)) 1 (upd (upd (upd (upd (upd (σ 1) ((ν 0 1) * 5) x0) (((ν 0 1) * 5) + 1) x1) (((ν 0 1) * 5) + 2) x2) (((ν 0 1) * 5) + 3) x3) (((ν 0 1) * 5) + 4) x4)) τ) 1 rfl (((ν 0 1) * 5) + 4) rfl (by omega) (by omega) rfl 77 rfl d_Rws_add_76 ?_
  refine r_aload_n rfl 78 rfl d_Rws_add_77 ?_
  refine r_dup rfl 79 rfl d_Rws_add_78 ?_
  refine r_getf (v := .int (nI (ν 0 1))) gf_Rws_19 0 rfl rfl 82 rfl d_Rws_add_79 ?_
  refine r_iconst (nI 1) rfl 83 rfl d_Rws_add_82 ?_
  refine r_iadd 84 rfl d_Rws_add_83 ?_
  refine r_topi (nI ((ν 0 1) + 1)) (nI_add _ _) ?_
  refine r_putf (w2 := RW X L a (pu ν 0 (u1 (ν 0) 1 ((ν 0 1) + 1))) (u2 (u2 (u2 (u2 (u2 σ 1 (upd (σ 1) ((ν 0 1) * 5) x0)) 1 (upd (upd (σ 1) ((ν 0 1) * 5) x0) (((ν 0 1) * 5) + 1) x1)) 1 (upd (upd (upd (σ 1) ((ν 0 1) * 5) x0) (((ν 0 1) * 5) + 1) x1) (((ν 0 1) * 5) + 2) x2)) 1 (upd (upd (upd (upd (σ 1) ((ν 0 1) * 5) x0) (((ν 0 1) * 5) + 1) x1) (((ν 0 1) * 5) + 2) x2) (((ν 0 1) * 5) + 3) x3)) 1 (upd (upd (upd (upd (upd (σ 1) ((ν 0 1) * 5) x0) (((ν 0 1) * 5) + 1) x1) (((ν 0 1) * 5) + 2) x2) (((ν 0 1) * 5) + 3) x3) (((ν 0 1) * 5) + 4) x4)) τ) pf_Rws_19 0 rfl (rfl) rfl (Nat.le_of_ble_eq_true rfl) rfl 87 rfl d_Rws_add_84 ?_
  refine r_iconst (nI 1) rfl 88 rfl d_Rws_add_87 ?_
  exact r_zret rfl (rfl) (Nat.zero_le _) (Nat.zero_le _) d_Rws_add_88 (by rw [← hQ]; exact ⟨rfl, by rw [Nat.mul_comm (ν 0 1) 5]; rfl⟩)
theorem c_Rws_add0 (X : Xn) (L : Nat)  (a : Nat → Nat) (ν : Nat → Nat → Nat) (σ : Nat → Nat → Int32) (τ : Nat → Nat → Int64)  (x0 : Int32) (x1 : Int32) (x2 : Int32) (x3 : Int32) (x4 : Int32) (hs : L < 5 * (ν 0 1) + 5) (hL : 5 ≤ L ∧ L < 1000) (hs2 : ν 0 1 < 1000) : Does X 1 M_Rws_add [.ref (a 0), .int x0, .int x1, .int x2, .int x3, .int x4] (RW X L a ν σ τ) 0 0 (fun (vv : Option Value) (ww : va_W) => vv = some (.int (nI 0)) ∧ ww = RW X L a ν σ τ) := by
  generalize hQ : (fun (vv : Option Value) (ww : va_W) => vv = some (.int (nI 0)) ∧ ww = RW X L a ν σ τ) = Q
  refine Does.go rfl (Nat.le_of_ble_eq_true rfl) [some (.ref (a 0)), some (.int x0), some (.int x1), some (.int x2), some (.int x3), some (.int x4), none] 1 rfl ?_
  obtain ⟨hL5, hL9⟩ := hL
  refine r_aload_n rfl 1 rfl d_Rws_add_0 ?_
  refine r_getf (v := .int (nI (ν 0 1))) gf_Rws_19 0 rfl rfl 4 rfl d_Rws_add_1 ?_
  refine r_iconst (nI 5) rfl 5 rfl d_Rws_add_4 ?_
  refine r_imul 6 rfl d_Rws_add_5 ?_
  refine r_topi (nI ((ν 0 1) * 5)) (pk_mul _ _) ?_
  refine r_istore (ls2 := [some (.ref (a 0)), some (.int x0), some (.int x1), some (.int x2), some (.int x3), some (.int x4), some (.int (nI ((ν 0 1) * 5)))]) 8 rfl d_Rws_add_6 (by decide) rfl rfl ?_
  refine r_iload rfl 10 rfl d_Rws_add_8 ?_
  refine r_if_ltN_f ((ν 0 1) * 5) (by omega) 13 rfl 25 rfl d_Rws_add_10 (Nat.zero_le _) ?_
  refine r_iload rfl 15 rfl d_Rws_add_13 ?_
  refine r_aload_n rfl 16 rfl d_Rws_add_15 ?_
  refine r_getf (v := .ref (a 1)) gf_Rws_15 0 rfl rfl 19 rfl d_Rws_add_16 ?_
  refine r_alenI 1 rfl 20 rfl d_Rws_add_19 ?_
  refine r_iconst (nI 5) rfl 21 rfl d_Rws_add_20 ?_
  refine r_isub 22 rfl d_Rws_add_21 ?_
  refine r_topi (nI (L - 5)) (pk_sub hL5) ?_
  refine r_icmp_leN_f ((ν 0 1) * 5) (L - 5) (by omega) (by omega) 25 rfl 27 rfl d_Rws_add_22 (by omega) ?_
  refine r_iconst (nI 0) rfl 26 rfl d_Rws_add_25 ?_
  exact r_zret rfl (rfl) (Nat.zero_le _) (Nat.zero_le _) d_Rws_add_26 (by rw [← hQ]; exact ⟨rfl, rfl⟩)
theorem c_Rws_copyFrom (X : Xn) (L : Nat)  (a : Nat → Nat) (ν : Nat → Nat → Nat) (σ : Nat → Nat → Int32) (τ : Nat → Nat → Int64)   (hL : L < 1000) : Does X 2 M_Rws_copyFrom [.ref (a 0), .ref (a 2)] (RR X L a ν σ τ) 0 0 (fun (vv : Option Value) (ww : va_W) => vv = none ∧ ww = RR X L a (pu ν 0 (u1 (ν 0) 1 (ν 2 1))) (u2 σ 1 (va_cpy (σ 3) (σ 1) 0 0 L)) τ) := by
  generalize hQ : (fun (vv : Option Value) (ww : va_W) => vv = none ∧ ww = RR X L a (pu ν 0 (u1 (ν 0) 1 (ν 2 1))) (u2 σ 1 (va_cpy (σ 3) (σ 1) 0 0 L)) τ) = Q
  refine Does.go rfl (Nat.le_of_ble_eq_true rfl) [some (.ref (a 0)), some (.ref (a 2))] 0 rfl ?_
  refine r_aload_n rfl 1 rfl d_Rws_copyFrom_0 ?_
  refine r_getf (v := .ref (a 3)) gf_Rws_15 2 rfl rfl 4 rfl d_Rws_copyFrom_1 ?_
  refine r_iconst (nI 0) rfl 5 rfl d_Rws_copyFrom_4 ?_
  refine r_aload_n rfl 6 rfl d_Rws_copyFrom_5 ?_
  refine r_getf (v := .ref (a 1)) gf_Rws_15 0 rfl rfl 9 rfl d_Rws_copyFrom_6 ?_
  refine r_iconst (nI 0) rfl 10 rfl d_Rws_copyFrom_9 ?_
  refine r_aload_n rfl 11 rfl d_Rws_copyFrom_10 ?_
  refine r_getf (v := .ref (a 1)) gf_Rws_15 0 rfl rfl 14 rfl d_Rws_copyFrom_11 ?_
  refine r_alenI 1 rfl 15 rfl d_Rws_copyFrom_14 ?_
  refine r_aload_n rfl 16 rfl d_Rws_copyFrom_15 ?_
  refine r_getf (v := .ref (a 3)) gf_Rws_15 2 rfl rfl 19 rfl d_Rws_copyFrom_16 ?_
  refine r_alenI 3 rfl 20 rfl d_Rws_copyFrom_19 ?_
  refine r_mmin (inTB 767 (by decide +kernel) rfl) (by first | decide | omega) (Nat.le_of_ble_eq_true rfl) (Nat.le_of_ble_eq_true rfl) (Nat.le_of_ble_eq_true rfl) 23 rfl d_Rws_copyFrom_20 ?_
  refine r_topi (nI L) (by rw [if_neg (fun z => Int32.lt_irrefl z)]) ?_
  refine r_copyi (w2 := RR X L a ν (u2 σ 1 (va_cpy (σ 3) (σ 1) 0 0 L)) τ) (inTB 768 (by decide +kernel) rfl) (by first | decide | omega) (Nat.le_of_ble_eq_true rfl) 3 1 rfl rfl 0 0 L rfl rfl rfl (by omega) (by omega) (by omega) (by omega) rfl 26 rfl d_Rws_copyFrom_23 ?_
  refine r_aload_n rfl 27 rfl d_Rws_copyFrom_26 ?_
  refine r_aload_n rfl 28 rfl d_Rws_copyFrom_27 ?_
  refine r_getf (v := .int (nI (ν 2 1))) gf_Rws_19 2 rfl rfl 31 rfl d_Rws_copyFrom_28 ?_
  refine r_putf (w2 := RR X L a (pu ν 0 (u1 (ν 0) 1 (ν 2 1))) (u2 σ 1 (va_cpy (σ 3) (σ 1) 0 0 L)) τ) pf_Rws_19 0 rfl (rfl) rfl (Nat.le_of_ble_eq_true rfl) rfl 34 rfl d_Rws_copyFrom_31 ?_
  exact r_vret rfl (Nat.zero_le _) (Nat.zero_le _) d_Rws_copyFrom_34 (by rw [← hQ]; exact ⟨rfl, rfl⟩)
theorem c_Fac_valueOf0 (X : Xn) (a : Nat → Nat) (ν : Nat → Nat → Nat) (σ : Nat → Nat → Int32) (τ : Nat → Nat → Int64) (p q : Nat) (kd v : Int32) (s d : Nat)  (hF : σ 0 = fF p q kd v s d) (hs : s < 1000) (hd : d < 1000000) : Does X 1 M_Fac_valueOf [.ref (a 0), .int (nI 112)] (FW X a ν σ τ) 0 0 (fun (vv : Option Value) (ww : va_W) => vv = some (.int (nI p)) ∧ ww = FW X a ν σ τ) := by
  generalize hQ : (fun (vv : Option Value) (ww : va_W) => vv = some (.int (nI p)) ∧ ww = FW X a ν σ τ) = Q
  refine Does.go rfl (Nat.le_of_ble_eq_true rfl) [some (.ref (a 0)), some (.int (nI 112))] 0 rfl ?_
  refine r_iload_n rfl 1 rfl d_Fac_valueOf_0 ?_
  refine r_tableIn 64 d_Fac_valueOf_1 (by decide) (by decide) (by rfl) rfl ?_
  refine r_aload_n rfl 65 rfl d_Fac_valueOf_64 ?_
  refine r_getf (v := .int (σ 0 0)) gf_Fac_13 0 rfl rfl 68 rfl d_Fac_valueOf_65 ?_
  exact r_iret rfl (Nat.zero_le _) (Nat.zero_le _) d_Fac_valueOf_68 (by rw [← hQ]; exact ⟨by rw [hF]; rfl, rfl⟩)
theorem c_Fac_valueOf1 (X : Xn) (a : Nat → Nat) (ν : Nat → Nat → Nat) (σ : Nat → Nat → Int32) (τ : Nat → Nat → Int64) (p q : Nat) (kd v : Int32) (s d : Nat)  (hF : σ 0 = fF p q kd v s d) (hs : s < 1000) (hd : d < 1000000) : Does X 1 M_Fac_valueOf [.ref (a 0), .int (nI 113)] (FW X a ν σ τ) 0 0 (fun (vv : Option Value) (ww : va_W) => vv = some (.int (nI q)) ∧ ww = FW X a ν σ τ) := by
  generalize hQ : (fun (vv : Option Value) (ww : va_W) => vv = some (.int (nI q)) ∧ ww = FW X a ν σ τ) = Q
  refine Does.go rfl (Nat.le_of_ble_eq_true rfl) [some (.ref (a 0)), some (.int (nI 113))] 0 rfl ?_
  refine r_iload_n rfl 1 rfl d_Fac_valueOf_0 ?_
  refine r_tableIn 69 d_Fac_valueOf_1 (by decide) (by decide) (by rfl) rfl ?_
  refine r_aload_n rfl 70 rfl d_Fac_valueOf_69 ?_
  refine r_getf (v := .int (σ 0 1)) gf_Fac_17 0 rfl rfl 73 rfl d_Fac_valueOf_70 ?_
  exact r_iret rfl (Nat.zero_le _) (Nat.zero_le _) d_Fac_valueOf_73 (by rw [← hQ]; exact ⟨by rw [hF]; rfl, rfl⟩)
theorem c_Fac_valueOf2 (X : Xn) (a : Nat → Nat) (ν : Nat → Nat → Nat) (σ : Nat → Nat → Int32) (τ : Nat → Nat → Int64) (p q : Nat) (kd v : Int32) (s d : Nat)  (hF : σ 0 = fF p q kd v s d) (hs : s < 1000) (hd : d < 1000000) : Does X 1 M_Fac_valueOf [.ref (a 0), .int (nI 107)] (FW X a ν σ τ) 0 0 (fun (vv : Option Value) (ww : va_W) => vv = some (.int kd) ∧ ww = FW X a ν σ τ) := by
  generalize hQ : (fun (vv : Option Value) (ww : va_W) => vv = some (.int kd) ∧ ww = FW X a ν σ τ) = Q
  refine Does.go rfl (Nat.le_of_ble_eq_true rfl) [some (.ref (a 0)), some (.int (nI 107))] 0 rfl ?_
  refine r_iload_n rfl 1 rfl d_Fac_valueOf_0 ?_
  refine r_tableIn 74 d_Fac_valueOf_1 (by decide) (by decide) (by rfl) rfl ?_
  refine r_aload_n rfl 75 rfl d_Fac_valueOf_74 ?_
  refine r_getf (v := .int (σ 0 2)) gf_Fac_20 0 rfl rfl 78 rfl d_Fac_valueOf_75 ?_
  exact r_iret rfl (Nat.zero_le _) (Nat.zero_le _) d_Fac_valueOf_78 (by rw [← hQ]; exact ⟨by rw [hF]; rfl, rfl⟩)
theorem c_Fac_valueOf3 (X : Xn) (a : Nat → Nat) (ν : Nat → Nat → Nat) (σ : Nat → Nat → Int32) (τ : Nat → Nat → Int64) (p q : Nat) (kd v : Int32) (s d : Nat)  (hF : σ 0 = fF p q kd v s d) (hs : s < 1000) (hd : d < 1000000) : Does X 1 M_Fac_valueOf [.ref (a 0), .int (nI 118)] (FW X a ν σ τ) 0 0 (fun (vv : Option Value) (ww : va_W) => vv = some (.int v) ∧ ww = FW X a ν σ τ) := by
  generalize hQ : (fun (vv : Option Value) (ww : va_W) => vv = some (.int v) ∧ ww = FW X a ν σ τ) = Q
  refine Does.go rfl (Nat.le_of_ble_eq_true rfl) [some (.ref (a 0)), some (.int (nI 118))] 0 rfl ?_
  refine r_iload_n rfl 1 rfl d_Fac_valueOf_0 ?_
  refine r_tableIn 79 d_Fac_valueOf_1 (by decide) (by decide) (by rfl) rfl ?_
  refine r_aload_n rfl 80 rfl d_Fac_valueOf_79 ?_
  refine r_getf (v := .int (σ 0 3)) gf_Fac_23 0 rfl rfl 83 rfl d_Fac_valueOf_80 ?_
  exact r_iret rfl (Nat.zero_le _) (Nat.zero_le _) d_Fac_valueOf_83 (by rw [← hQ]; exact ⟨by rw [hF]; rfl, rfl⟩)
theorem c_Fac_valueOf4 (X : Xn) (a : Nat → Nat) (ν : Nat → Nat → Nat) (σ : Nat → Nat → Int32) (τ : Nat → Nat → Int64) (p q : Nat) (kd v : Int32) (s d : Nat)  (hF : σ 0 = fF p q kd v s d) (hs : s < 1000) (hd : d < 1000000) : Does X 1 M_Fac_valueOf [.ref (a 0), .int (nI 115)] (FW X a ν σ τ) 0 0 (fun (vv : Option Value) (ww : va_W) => vv = some (.int (nI (s / 10))) ∧ ww = FW X a ν σ τ) := by
  generalize hQ : (fun (vv : Option Value) (ww : va_W) => vv = some (.int (nI (s / 10))) ∧ ww = FW X a ν σ τ) = Q
  refine Does.go rfl (Nat.le_of_ble_eq_true rfl) [some (.ref (a 0)), some (.int (nI 115))] 0 rfl ?_
  refine r_iload_n rfl 1 rfl d_Fac_valueOf_0 ?_
  refine r_tableIn 84 d_Fac_valueOf_1 (by decide) (by decide) (by rfl) rfl ?_
  refine r_aload_n rfl 85 rfl d_Fac_valueOf_84 ?_
  refine r_getf (v := .int (σ 0 4)) gf_Fac_26 0 rfl rfl 88 rfl d_Fac_valueOf_85 ?_
  refine r_topi (nI s) (by rw [hF]; rfl) ?_
  refine r_bipush (nI 10) rfl 90 rfl d_Fac_valueOf_88 ?_
  refine r_idiv (by decide) 91 rfl d_Fac_valueOf_90 ?_
  exact r_iret rfl (Nat.zero_le _) (Nat.zero_le _) d_Fac_valueOf_91 (by rw [← hQ]; exact ⟨by rw [pk_div (by omega) (by omega) (by omega)], rfl⟩)
theorem c_Fac_valueOf5 (X : Xn) (a : Nat → Nat) (ν : Nat → Nat → Nat) (σ : Nat → Nat → Int32) (τ : Nat → Nat → Int64) (p q : Nat) (kd v : Int32) (s d : Nat)  (hF : σ 0 = fF p q kd v s d) (hs : s < 1000) (hd : d < 1000000) : Does X 1 M_Fac_valueOf [.ref (a 0), .int (nI 100)] (FW X a ν σ τ) 0 0 (fun (vv : Option Value) (ww : va_W) => vv = some (.int (nI (d % 10))) ∧ ww = FW X a ν σ τ) := by
  generalize hQ : (fun (vv : Option Value) (ww : va_W) => vv = some (.int (nI (d % 10))) ∧ ww = FW X a ν σ τ) = Q
  refine Does.go rfl (Nat.le_of_ble_eq_true rfl) [some (.ref (a 0)), some (.int (nI 100))] 0 rfl ?_
  refine r_iload_n rfl 1 rfl d_Fac_valueOf_0 ?_
  refine r_tableOut 92 d_Fac_valueOf_1 (by decide) rfl ?_
  refine r_aload_n rfl 93 rfl d_Fac_valueOf_92 ?_
  refine r_getf (v := .int (σ 0 5)) gf_Fac_29 0 rfl rfl 96 rfl d_Fac_valueOf_93 ?_
  refine r_topi (nI d) (by rw [hF]; rfl) ?_
  refine r_bipush (nI 10) rfl 98 rfl d_Fac_valueOf_96 ?_
  refine r_irem (by decide) 99 rfl d_Fac_valueOf_98 ?_
  exact r_iret rfl (Nat.zero_le _) (Nat.zero_le _) d_Fac_valueOf_99 (by rw [← hQ]; exact ⟨by rw [pk_rem (by omega) (by omega) (by omega)], rfl⟩)
theorem c_Fac_valueOf (X : Xn) (a : Nat → Nat) (ν : Nat → Nat → Nat) (σ : Nat → Nat → Int32) (τ : Nat → Nat → Int64) (p q : Nat) (kd v : Int32) (s d : Nat) (hF : σ 0 = fF p q kd v s d) (hs : s < 1000) (hd : d < 1000000) (l : Nat) (hl : l < 6) : Does X 1 M_Fac_valueOf [.ref (a 0), .int (nI (lc l))] (FW X a ν σ τ) 0 0 (fun (vv : Option Value) (ww : va_W) => vv = some (.int (letV p q kd v s d l)) ∧ ww = FW X a ν σ τ) := by
  rcases (show l = 0 ∨ l = 1 ∨ l = 2 ∨ l = 3 ∨ l = 4 ∨ l = 5 by omega) with rfl | rfl | rfl | rfl | rfl | rfl
  · exact c_Fac_valueOf0 X a ν σ τ p q kd v s d hF hs hd
  · exact c_Fac_valueOf1 X a ν σ τ p q kd v s d hF hs hd
  · exact c_Fac_valueOf2 X a ν σ τ p q kd v s d hF hs hd
  · exact c_Fac_valueOf3 X a ν σ τ p q kd v s d hF hs hd
  · exact c_Fac_valueOf4 X a ν σ τ p q kd v s d hF hs hd
  · exact c_Fac_valueOf5 X a ν σ τ p q kd v s d hF hs hd
theorem c_Fac_passes0 (X : Xn) (a : Nat → Nat) (ν : Nat → Nat → Nat) (σ : Nat → Nat → Int32) (τ : Nat → Nat → Int64) (p q : Nat) (kd v : Int32) (s d l n : Nat) (hF : σ 0 = fF p q kd v s d) (hs : s < 1000) (hd : d < 1000000) (hl : l < 6)  : Does X 2 M_Fac_passes [.ref (a 0), .int (nI (lc l)), .int (nI 60), .int (nI n)] (FW X a ν σ τ) 0 0 (fun (vv : Option Value) (ww : va_W) => vv = some (.int (bI (decide (letV p q kd v s d l < nI n)))) ∧ ww = FW X a ν σ τ) := by
  generalize hQ : (fun (vv : Option Value) (ww : va_W) => vv = some (.int (bI (decide (letV p q kd v s d l < nI n)))) ∧ ww = FW X a ν σ τ) = Q
  refine Does.go rfl (Nat.le_of_ble_eq_true rfl) [some (.ref (a 0)), some (.int (nI (lc l))), some (.int (nI 60)), some (.int (nI n)), none] 1 rfl ?_
  refine r_aload_n rfl 1 rfl d_Fac_passes_0 ?_
  refine r_iload_n rfl 2 rfl d_Fac_passes_1 ?_
  refine r_callVA1 (st2 := [.int (letV p q kd v s d l)]) (w2 := FW X a ν σ τ) lk_Fac_valueOf ln_Fac_7 (c_Fac_valueOf X a ν σ τ p q kd v s d hF hs hd l hl) (by first | decide | omega) rfl rfl (Nat.le_of_ble_eq_true rfl) (Nat.le_of_ble_eq_true rfl) (Nat.le_of_ble_eq_true rfl) 0 rfl rfl rfl rfl 5 rfl d_Fac_passes_2 ?_
  refine r_istore (ls2 := [some (.ref (a 0)), some (.int (nI (lc l))), some (.int (nI 60)), some (.int (nI n)), some (.int (letV p q kd v s d l))]) 7 rfl d_Fac_passes_5 (by decide) rfl rfl ?_
  refine r_iload_n rfl 8 rfl d_Fac_passes_7 ?_
  refine r_bipush (nI 60) rfl 10 rfl d_Fac_passes_8 ?_
  refine r_icmp_neN_f 60 60 (by omega) (by omega) 13 rfl 25 rfl d_Fac_passes_10 (by decide) ?_
  refine r_iload rfl 15 rfl d_Fac_passes_13 ?_
  refine r_iload_n rfl 16 rfl d_Fac_passes_15 ?_
  refine r_icmp_ge 19 23 rfl rfl d_Fac_passes_16 (fun h16 => ?_) (fun h16 => ?_)
  · refine r_iconst (nI 0) rfl 24 rfl d_Fac_passes_23 ?_
    exact r_zret rfl (rfl) (Nat.zero_le _) (Nat.zero_le _) d_Fac_passes_24 (by rw [← hQ]; exact ⟨vB_f (decide_eq_false (Int32.not_lt.mpr h16)), rfl⟩)
  · refine r_iconst (nI 1) rfl 20 rfl d_Fac_passes_19 ?_
    refine r_goto 24 rfl d_Fac_passes_20 ?_
    exact r_zret rfl (rfl) (Nat.zero_le _) (Nat.zero_le _) d_Fac_passes_24 (by rw [← hQ]; exact ⟨vB_t (decide_eq_true (Int32.not_le.mp h16)), rfl⟩)
theorem c_Fac_passes1 (X : Xn) (a : Nat → Nat) (ν : Nat → Nat → Nat) (σ : Nat → Nat → Int32) (τ : Nat → Nat → Int64) (p q : Nat) (kd v : Int32) (s d l n : Nat) (hF : σ 0 = fF p q kd v s d) (hs : s < 1000) (hd : d < 1000000) (hl : l < 6)  : Does X 2 M_Fac_passes [.ref (a 0), .int (nI (lc l)), .int (nI 61), .int (nI n)] (FW X a ν σ τ) 0 0 (fun (vv : Option Value) (ww : va_W) => vv = some (.int (bI (decide (letV p q kd v s d l = nI n)))) ∧ ww = FW X a ν σ τ) := by
  generalize hQ : (fun (vv : Option Value) (ww : va_W) => vv = some (.int (bI (decide (letV p q kd v s d l = nI n)))) ∧ ww = FW X a ν σ τ) = Q
  refine Does.go rfl (Nat.le_of_ble_eq_true rfl) [some (.ref (a 0)), some (.int (nI (lc l))), some (.int (nI 61)), some (.int (nI n)), none] 1 rfl ?_
  refine r_aload_n rfl 1 rfl d_Fac_passes_0 ?_
  refine r_iload_n rfl 2 rfl d_Fac_passes_1 ?_
  refine r_callVA1 (st2 := [.int (letV p q kd v s d l)]) (w2 := FW X a ν σ τ) lk_Fac_valueOf ln_Fac_7 (c_Fac_valueOf X a ν σ τ p q kd v s d hF hs hd l hl) (by first | decide | omega) rfl rfl (Nat.le_of_ble_eq_true rfl) (Nat.le_of_ble_eq_true rfl) (Nat.le_of_ble_eq_true rfl) 0 rfl rfl rfl rfl 5 rfl d_Fac_passes_2 ?_
  refine r_istore (ls2 := [some (.ref (a 0)), some (.int (nI (lc l))), some (.int (nI 61)), some (.int (nI n)), some (.int (letV p q kd v s d l))]) 7 rfl d_Fac_passes_5 (by decide) rfl rfl ?_
  refine r_iload_n rfl 8 rfl d_Fac_passes_7 ?_
  refine r_bipush (nI 60) rfl 10 rfl d_Fac_passes_8 ?_
  refine r_icmp_neN_t 61 60 (by omega) (by omega) 25 rfl d_Fac_passes_10 (by decide) ?_
  refine r_iload_n rfl 26 rfl d_Fac_passes_25 ?_
  refine r_bipush (nI 61) rfl 28 rfl d_Fac_passes_26 ?_
  refine r_icmp_neN_f 61 61 (by omega) (by omega) 31 rfl 45 rfl d_Fac_passes_28 (by decide) ?_
  refine r_iload rfl 33 rfl d_Fac_passes_31 ?_
  refine r_iload_n rfl 34 rfl d_Fac_passes_33 ?_
  refine r_icmp_ne 37 41 rfl rfl d_Fac_passes_34 (fun h34 => ?_) (fun h34 => ?_)
  · refine r_iconst (nI 0) rfl 42 rfl d_Fac_passes_41 ?_
    refine r_goto 56 rfl d_Fac_passes_42 ?_
    exact r_zret rfl (rfl) (Nat.zero_le _) (Nat.zero_le _) d_Fac_passes_56 (by rw [← hQ]; exact ⟨vB_f (decide_eq_false h34), rfl⟩)
  · refine r_iconst (nI 1) rfl 38 rfl d_Fac_passes_37 ?_
    refine r_goto 56 rfl d_Fac_passes_38 ?_
    exact r_zret rfl (rfl) (Nat.zero_le _) (Nat.zero_le _) d_Fac_passes_56 (by rw [← hQ]; exact ⟨vB_t (decide_eq_true h34), rfl⟩)
theorem c_Fac_passes2 (X : Xn) (a : Nat → Nat) (ν : Nat → Nat → Nat) (σ : Nat → Nat → Int32) (τ : Nat → Nat → Int64) (p q : Nat) (kd v : Int32) (s d l n : Nat) (hF : σ 0 = fF p q kd v s d) (hs : s < 1000) (hd : d < 1000000) (hl : l < 6)  : Does X 2 M_Fac_passes [.ref (a 0), .int (nI (lc l)), .int (nI 62), .int (nI n)] (FW X a ν σ τ) 0 0 (fun (vv : Option Value) (ww : va_W) => vv = some (.int (bI (decide (nI n < letV p q kd v s d l)))) ∧ ww = FW X a ν σ τ) := by
  generalize hQ : (fun (vv : Option Value) (ww : va_W) => vv = some (.int (bI (decide (nI n < letV p q kd v s d l)))) ∧ ww = FW X a ν σ τ) = Q
  refine Does.go rfl (Nat.le_of_ble_eq_true rfl) [some (.ref (a 0)), some (.int (nI (lc l))), some (.int (nI 62)), some (.int (nI n)), none] 1 rfl ?_
  refine r_aload_n rfl 1 rfl d_Fac_passes_0 ?_
  refine r_iload_n rfl 2 rfl d_Fac_passes_1 ?_
  refine r_callVA1 (st2 := [.int (letV p q kd v s d l)]) (w2 := FW X a ν σ τ) lk_Fac_valueOf ln_Fac_7 (c_Fac_valueOf X a ν σ τ p q kd v s d hF hs hd l hl) (by first | decide | omega) rfl rfl (Nat.le_of_ble_eq_true rfl) (Nat.le_of_ble_eq_true rfl) (Nat.le_of_ble_eq_true rfl) 0 rfl rfl rfl rfl 5 rfl d_Fac_passes_2 ?_
  refine r_istore (ls2 := [some (.ref (a 0)), some (.int (nI (lc l))), some (.int (nI 62)), some (.int (nI n)), some (.int (letV p q kd v s d l))]) 7 rfl d_Fac_passes_5 (by decide) rfl rfl ?_
  refine r_iload_n rfl 8 rfl d_Fac_passes_7 ?_
  refine r_bipush (nI 60) rfl 10 rfl d_Fac_passes_8 ?_
  refine r_icmp_neN_t 62 60 (by omega) (by omega) 25 rfl d_Fac_passes_10 (by decide) ?_
  refine r_iload_n rfl 26 rfl d_Fac_passes_25 ?_
  refine r_bipush (nI 61) rfl 28 rfl d_Fac_passes_26 ?_
  refine r_icmp_neN_t 62 61 (by omega) (by omega) 45 rfl d_Fac_passes_28 (by decide) ?_
  refine r_iload rfl 47 rfl d_Fac_passes_45 ?_
  refine r_iload_n rfl 48 rfl d_Fac_passes_47 ?_
  refine r_icmp_le 51 55 rfl rfl d_Fac_passes_48 (fun h48 => ?_) (fun h48 => ?_)
  · refine r_iconst (nI 0) rfl 56 rfl d_Fac_passes_55 ?_
    exact r_zret rfl (rfl) (Nat.zero_le _) (Nat.zero_le _) d_Fac_passes_56 (by rw [← hQ]; exact ⟨vB_f (decide_eq_false (Int32.not_lt.mpr h48)), rfl⟩)
  · refine r_iconst (nI 1) rfl 52 rfl d_Fac_passes_51 ?_
    refine r_goto 56 rfl d_Fac_passes_52 ?_
    exact r_zret rfl (rfl) (Nat.zero_le _) (Nat.zero_le _) d_Fac_passes_56 (by rw [← hQ]; exact ⟨vB_t (decide_eq_true (Int32.not_le.mp h48)), rfl⟩)
theorem c_Fac_passes (X : Xn) (a : Nat → Nat) (ν : Nat → Nat → Nat) (σ : Nat → Nat → Int32) (τ : Nat → Nat → Int64) (p q : Nat) (kd v : Int32) (s d : Nat) (hF : σ 0 = fF p q kd v s d) (hs : s < 1000) (hd : d < 1000000) (l g n : Nat) (hl : l < 6) (hg : g < 3) : Does X 2 M_Fac_passes [.ref (a 0), .int (nI (lc l)), .int (nI (60 + g)), .int (nI n)] (FW X a ν σ τ) 0 0 (fun (vv : Option Value) (ww : va_W) => vv = some (.int (bI (tvL p q kd v s d l g n))) ∧ ww = FW X a ν σ τ) := by
  rcases (show g = 0 ∨ g = 1 ∨ g = 2 by omega) with rfl | rfl | rfl
  · exact c_Fac_passes0 X a ν σ τ p q kd v s d l n hF hs hd hl
  · exact c_Fac_passes1 X a ν σ τ p q kd v s d l n hF hs hd hl
  · exact c_Fac_passes2 X a ν σ τ p q kd v s d l n hF hs hd hl
theorem c_Exc_holds (X : Xn) (a : Nat → Nat) (ν : Nat → Nat → Nat) (σ : Nat → Nat → Int32) (τ : Nat → Nat → Int64) (p q : Nat) (kd v : Int32) (s d : Nat) (hF : σ 4 = fF p q kd v s d) (hs : s < 1000) (hd : d < 1000000) (b L : Nat) (tk : Nat → Nat) (hL : b + L ≤ 100) (hok : okT tk L) (hS : ∀ j, j < L → σ 1 (b + j) = stp (tk j))  : Does X 3 M_Exc_holds [.ref (a 0), .int (nI b), .int (nI (b + L)), .ref (a 4)] (EF X a ν σ τ) 0 0 (fun (vv : Option Value) (ww : va_W) => vv = some (.int (bI (evS (tvF p q kd v s d) tk L 0))) ∧ ww = EF X a ν σ τ) := by
  generalize hQ : (fun (vv : Option Value) (ww : va_W) => vv = some (.int (bI (evS (tvF p q kd v s d) tk L 0))) ∧ ww = EF X a ν σ τ) = Q
  refine Does.go rfl (Nat.le_of_ble_eq_true rfl) [some (.ref (a 0)), some (.int (nI b)), some (.int (nI (b + L))), some (.ref (a 4)), none, none, none, none, none] 5 rfl ?_
  refine r_iconst (nI 0) rfl 1 rfl d_Exc_holds_0 ?_
  refine r_istore (ls2 := [some (.ref (a 0)), some (.int (nI b)), some (.int (nI (b + L))), some (.ref (a 4)), some (.int (nI 0)), none, none, none, none]) 3 rfl d_Exc_holds_1 (by decide) rfl rfl ?_
  refine r_iload_n rfl 4 rfl d_Exc_holds_3 ?_
  refine r_istore (ls2 := [some (.ref (a 0)), some (.int (nI b)), some (.int (nI (b + L))), some (.ref (a 4)), some (.int (nI 0)), some (.int (nI b)), none, none, none]) 6 rfl d_Exc_holds_4 (by decide) rfl rfl ?_
  have L6_1 : ∀ (f : Nat) (j : Nat), (j ≤ L) → L - j < f → Runs X 3 M_Exc_holds 0 0 Q 6 [some (.ref (a 0)), some (.int (nI b)), some (.int (nI (b + L))), some (.ref (a 4)), some (.int (nI (wN (evS (tvF p q kd v s d) tk j) (dp tk j)))), some (.int (nI (b + j))), none, none, none] [] 0 0 (EF X a ν σ τ) := by
    intro f
    induction f with
    | zero => intro j hjL hmu; exact absurd hmu (Nat.not_lt_zero _)
    | succ f ih2 =>
      intro j hjL hmu
      refine r_iload rfl 8 rfl d_Exc_holds_6 ?_
      refine r_iload_n rfl 9 rfl d_Exc_holds_8 ?_
      refine r_icmp_geN (b + j) (b + L) (by omega) (by omega) 12 132 rfl rfl d_Exc_holds_9 (fun h9 => ?_) (fun h9 => ?_)
      · refine r_iload rfl 134 rfl d_Exc_holds_132 ?_
        refine r_iconst (nI 1) rfl 135 rfl d_Exc_holds_134 ?_
        refine r_iand 136 rfl d_Exc_holds_135 ?_
        refine r_topi (nI ((wN (evS (tvF p q kd v s d) tk j) (dp tk j)) &&& 1)) (nx_and _ _) ?_
        refine r_if_eqN ((wN (evS (tvF p q kd v s d) tk j) (dp tk j)) &&& 1) (b_lt31 _) 139 143 rfl rfl d_Exc_holds_136 (fun h136 => ?_) (fun h136 => ?_)
        · refine r_iconst (nI 0) rfl 144 rfl d_Exc_holds_143 ?_
          exact r_zret rfl (rfl) (Nat.zero_le _) (Nat.zero_le _) d_Exc_holds_144 (by rw [← hQ]; exact ⟨vB_f (hold_f hok (by omega) h136), rfl⟩)
        · refine r_iconst (nI 1) rfl 140 rfl d_Exc_holds_139 ?_
          refine r_goto 144 rfl d_Exc_holds_140 ?_
          exact r_zret rfl (rfl) (Nat.zero_le _) (Nat.zero_le _) d_Exc_holds_144 (by rw [← hQ]; exact ⟨vB_t (hold_e hok (by omega) h136), rfl⟩)
      · have hj : j < L := by omega
        refine r_aload_n rfl 13 rfl d_Exc_holds_12 ?_
        refine r_getf (v := .ref (a 1)) gf_Exc_9 0 rfl rfl 16 rfl d_Exc_holds_13 ?_
        refine r_iload rfl 18 rfl d_Exc_holds_16 ?_
        refine r_callSn1 (st2 := [.int (σ 1 (b + j))]) (w2 := EF X a ν σ τ) lk_HB_at ln_Exc_40 (c_at X _ 100 (b + j) (σ 1) (by omega) (by decide)) (by first | decide | omega) rfl rfl (Nat.le_of_ble_eq_true rfl) (Nat.le_of_ble_eq_true rfl) (Nat.le_of_ble_eq_true rfl) [1] rfl rfl rfl rfl rfl 21 rfl d_Exc_holds_18 ?_
        refine r_istore (ls2 := [some (.ref (a 0)), some (.int (nI b)), some (.int (nI (b + L))), some (.ref (a 4)), some (.int (nI (wN (evS (tvF p q kd v s d) tk j) (dp tk j)))), some (.int (nI (b + j))), some (.int (σ 1 (b + j))), none, none]) 23 rfl d_Exc_holds_21 (by decide) rfl rfl ?_
        have hst : σ 1 (b + j) = stp (tk j) := hS j hj
        have hb20 := wN_lt20 (evS (tvF p q kd v s d) tk j) (hok.1 j hj).2.1
        refine r_iload rfl 25 rfl d_Exc_holds_23 ?_
        refine r_iconst (nI 1) rfl 26 rfl d_Exc_holds_25 ?_
        refine r_iand 27 rfl d_Exc_holds_26 ?_
        refine r_topi (nI ((wN (evS (tvF p q kd v s d) tk j) (dp tk j)) &&& 1)) (nx_and _ _) ?_
        refine r_istore (ls2 := [some (.ref (a 0)), some (.int (nI b)), some (.int (nI (b + L))), some (.ref (a 4)), some (.int (nI (wN (evS (tvF p q kd v s d) tk j) (dp tk j)))), some (.int (nI (b + j))), some (.int (σ 1 (b + j))), some (.int (nI ((wN (evS (tvF p q kd v s d) tk j) (dp tk j)) &&& 1))), none]) 29 rfl d_Exc_holds_27 (by decide) rfl rfl ?_
        refine r_iload rfl 31 rfl d_Exc_holds_29 ?_
        refine r_iconst ((-1)) rfl 32 rfl d_Exc_holds_31 ?_
        refine r_icmp_ne 35 44 rfl rfl d_Exc_holds_32 (fun h32 => ?_) (fun h32 => ?_)
        · refine r_iload rfl 46 rfl d_Exc_holds_44 ?_
          refine r_bipush ((-2)) rfl 48 rfl d_Exc_holds_46 ?_
          refine r_icmp_ne 51 66 rfl rfl d_Exc_holds_48 (fun h48 => ?_) (fun h48 => ?_)
          · refine r_iload rfl 68 rfl d_Exc_holds_66 ?_
            refine r_bipush ((-3)) rfl 70 rfl d_Exc_holds_68 ?_
            refine r_icmp_ne 73 85 rfl rfl d_Exc_holds_70 (fun h70 => ?_) (fun h70 => ?_)
            · obtain ⟨h3, hq⟩ := stp_3 (c := tk j) (by rw [← hst]; exact h32) (by rw [← hst]; exact h48) (by rw [← hst]; exact h70)
              have hcl := (hok.1 j hj).1
              have hbig := stN_lt (tk j)
              refine Runs.cast (ls' := [some (.ref (a 0)), some (.int (nI b)), some (.int (nI (b + L))), some (.ref (a 4)), some (.int (nI (wN (evS (tvF p q kd v s d) tk j) (dp tk j)))), some (.int (nI (b + j))), some (.int (nI (stN (tk j)))), some (.int (nI ((wN (evS (tvF p q kd v s d) tk j) (dp tk j)) &&& 1))), none]) ?_ (by rw [hst, hq]) rfl rfl
              refine r_aload_n rfl 86 rfl d_Exc_holds_85 ?_
              refine r_iload rfl 88 rfl d_Exc_holds_86 ?_
              refine r_bipush (nI 14) rfl 90 rfl d_Exc_holds_88 ?_
              refine r_ishr 91 rfl d_Exc_holds_90 ?_
              refine r_topi (nI ((stN (tk j)) >>> 14)) (nI_shr (by omega) (by omega)) ?_
              refine r_topi (nI (lc ((tk j - 3) / 300))) (congrArg nI (stN_l h3)) ?_
              refine r_iload rfl 93 rfl d_Exc_holds_91 ?_
              refine r_bipush (nI 7) rfl 95 rfl d_Exc_holds_93 ?_
              refine r_ishr 96 rfl d_Exc_holds_95 ?_
              refine r_topi (nI ((stN (tk j)) >>> 7)) (nI_shr (by omega) (by omega)) ?_
              refine r_bipush (nI 127) rfl 98 rfl d_Exc_holds_96 ?_
              refine r_iand 99 rfl d_Exc_holds_98 ?_
              refine r_topi (nI (((stN (tk j)) >>> 7) &&& 127)) (nx_and _ _) ?_
              refine r_topi (nI (60 + (tk j - 3) / 100 % 3)) (congrArg nI (stN_g h3)) ?_
              refine r_iload rfl 101 rfl d_Exc_holds_99 ?_
              refine r_bipush (nI 127) rfl 103 rfl d_Exc_holds_101 ?_
              refine r_iand 104 rfl d_Exc_holds_103 ?_
              refine r_topi (nI ((stN (tk j)) &&& 127)) (nx_and _ _) ?_
              refine r_topi (nI ((tk j - 3) % 100)) (congrArg nI (stN_n h3)) ?_
              refine r_callV1 (st2 := [.int (bI (tvF p q kd v s d (tk j)))]) (w2 := EF X a ν σ τ) lk_Fac_passes ln_Exc_48 (c_Fac_passes X (pl [4] a) (pl [4] ν) (pl [4] σ) (pl [4] τ) p q kd v s d hF hs hd ((tk j - 3) / 300) ((tk j - 3) / 100 % 3) ((tk j - 3) % 100) (by omega) (Nat.mod_lt _ (by decide))) (by first | decide | omega) rfl rfl (Nat.le_of_ble_eq_true rfl) (Nat.le_of_ble_eq_true rfl) (Nat.le_of_ble_eq_true rfl) [4] rfl rfl 0 rfl rfl rfl rfl rfl 107 rfl d_Exc_holds_104 ?_
              refine r_istore (ls2 := [some (.ref (a 0)), some (.int (nI b)), some (.int (nI (b + L))), some (.ref (a 4)), some (.int (nI (wN (evS (tvF p q kd v s d) tk j) (dp tk j)))), some (.int (nI (b + j))), some (.int (nI (stN (tk j)))), some (.int (nI ((wN (evS (tvF p q kd v s d) tk j) (dp tk j)) &&& 1))), some (.int (bI (tvF p q kd v s d (tk j))))]) 109 rfl d_Exc_holds_107 (by decide) rfl rfl ?_
              refine r_iload rfl 111 rfl d_Exc_holds_109 ?_
              refine r_iconst (nI 1) rfl 112 rfl d_Exc_holds_111 ?_
              refine r_ishl 113 rfl d_Exc_holds_112 ?_
              refine r_topi (nI ((wN (evS (tvF p q kd v s d) tk j) (dp tk j)) <<< 1)) (nI_shl (by omega) (by omega)) ?_
              refine r_iload rfl 115 rfl d_Exc_holds_113 ?_
              refine r_if_eqB 118 122 rfl rfl d_Exc_holds_115 (fun h115 => ?_) (fun h115 => ?_)
              · refine r_iconst (nI 0) rfl 123 rfl d_Exc_holds_122 ?_
                refine r_ior 124 rfl d_Exc_holds_123 ?_
                refine r_topi (nI (((wN (evS (tvF p q kd v s d) tk j) (dp tk j)) <<< 1) ||| 0)) (nx_or _ _) ?_
                refine r_topi (nI (wN (evS (tvF p q kd v s d) tk (j + 1)) (dp tk (j + 1)))) (by rw [wN_t h3, h115]; exact congrArg nI (w_shl _ false)) ?_
                refine r_istore (ls2 := [some (.ref (a 0)), some (.int (nI b)), some (.int (nI (b + L))), some (.ref (a 4)), some (.int (nI (wN (evS (tvF p q kd v s d) tk (j + 1)) (dp tk (j + 1))))), some (.int (nI (b + j))), some (.int (nI (stN (tk j)))), some (.int (nI ((wN (evS (tvF p q kd v s d) tk j) (dp tk j)) &&& 1))), some (.int (bI (tvF p q kd v s d (tk j))))]) 126 rfl d_Exc_holds_124 (by decide) rfl rfl ?_
                refine r_iinc (ls2 := [some (.ref (a 0)), some (.int (nI b)), some (.int (nI (b + L))), some (.ref (a 4)), some (.int (nI (wN (evS (tvF p q kd v s d) tk (j + 1)) (dp tk (j + 1))))), some (.int (nI ((b + j) + 1))), some (.int (nI (stN (tk j)))), some (.int (nI ((wN (evS (tvF p q kd v s d) tk j) (dp tk j)) &&& 1))), some (.int (bI (tvF p q kd v s d (tk j))))]) (nI ((b + j) + 1)) rfl (nI_1 _) 129 rfl d_Exc_holds_126 (by decide) rfl rfl ?_
                refine r_goto 6 rfl d_Exc_holds_129 ?_
                refine r_forget (ls2 := [some (.ref (a 0)), some (.int (nI b)), some (.int (nI (b + L))), some (.ref (a 4)), some (.int (nI (wN (evS (tvF p q kd v s d) tk (j + 1)) (dp tk (j + 1))))), some (.int (nI ((b + j) + 1))), none, some (.int (nI ((wN (evS (tvF p q kd v s d) tk j) (dp tk j)) &&& 1))), some (.int (bI (tvF p q kd v s d (tk j))))]) 6 rfl ?_
                refine r_forget (ls2 := [some (.ref (a 0)), some (.int (nI b)), some (.int (nI (b + L))), some (.ref (a 4)), some (.int (nI (wN (evS (tvF p q kd v s d) tk (j + 1)) (dp tk (j + 1))))), some (.int (nI ((b + j) + 1))), none, none, some (.int (bI (tvF p q kd v s d (tk j))))]) 7 rfl ?_
                refine r_forget (ls2 := [some (.ref (a 0)), some (.int (nI b)), some (.int (nI (b + L))), some (.ref (a 4)), some (.int (nI (wN (evS (tvF p q kd v s d) tk (j + 1)) (dp tk (j + 1))))), some (.int (nI ((b + j) + 1))), none, none, none]) 8 rfl ?_
                exact ih2 (j + 1) (by omega) (by omega)
              · refine r_iconst (nI 1) rfl 119 rfl d_Exc_holds_118 ?_
                refine r_goto 123 rfl d_Exc_holds_119 ?_
                refine r_ior 124 rfl d_Exc_holds_123 ?_
                refine r_topi (nI (((wN (evS (tvF p q kd v s d) tk j) (dp tk j)) <<< 1) ||| 1)) (nx_or _ _) ?_
                refine r_topi (nI (wN (evS (tvF p q kd v s d) tk (j + 1)) (dp tk (j + 1)))) (by rw [wN_t h3, h115]; exact congrArg nI (w_shl _ true)) ?_
                refine r_istore (ls2 := [some (.ref (a 0)), some (.int (nI b)), some (.int (nI (b + L))), some (.ref (a 4)), some (.int (nI (wN (evS (tvF p q kd v s d) tk (j + 1)) (dp tk (j + 1))))), some (.int (nI (b + j))), some (.int (nI (stN (tk j)))), some (.int (nI ((wN (evS (tvF p q kd v s d) tk j) (dp tk j)) &&& 1))), some (.int (bI (tvF p q kd v s d (tk j))))]) 126 rfl d_Exc_holds_124 (by decide) rfl rfl ?_
                refine r_iinc (ls2 := [some (.ref (a 0)), some (.int (nI b)), some (.int (nI (b + L))), some (.ref (a 4)), some (.int (nI (wN (evS (tvF p q kd v s d) tk (j + 1)) (dp tk (j + 1))))), some (.int (nI ((b + j) + 1))), some (.int (nI (stN (tk j)))), some (.int (nI ((wN (evS (tvF p q kd v s d) tk j) (dp tk j)) &&& 1))), some (.int (bI (tvF p q kd v s d (tk j))))]) (nI ((b + j) + 1)) rfl (nI_1 _) 129 rfl d_Exc_holds_126 (by decide) rfl rfl ?_
                refine r_goto 6 rfl d_Exc_holds_129 ?_
                refine r_forget (ls2 := [some (.ref (a 0)), some (.int (nI b)), some (.int (nI (b + L))), some (.ref (a 4)), some (.int (nI (wN (evS (tvF p q kd v s d) tk (j + 1)) (dp tk (j + 1))))), some (.int (nI ((b + j) + 1))), none, some (.int (nI ((wN (evS (tvF p q kd v s d) tk j) (dp tk j)) &&& 1))), some (.int (bI (tvF p q kd v s d (tk j))))]) 6 rfl ?_
                refine r_forget (ls2 := [some (.ref (a 0)), some (.int (nI b)), some (.int (nI (b + L))), some (.ref (a 4)), some (.int (nI (wN (evS (tvF p q kd v s d) tk (j + 1)) (dp tk (j + 1))))), some (.int (nI ((b + j) + 1))), none, none, some (.int (bI (tvF p q kd v s d (tk j))))]) 7 rfl ?_
                refine r_forget (ls2 := [some (.ref (a 0)), some (.int (nI b)), some (.int (nI (b + L))), some (.ref (a 4)), some (.int (nI (wN (evS (tvF p q kd v s d) tk (j + 1)) (dp tk (j + 1))))), some (.int (nI ((b + j) + 1))), none, none, none]) 8 rfl ?_
                exact ih2 (j + 1) (by omega) (by omega)
            · have h1 : tk j = 2 := stp_2 (by rw [← hst]; exact h70)
              have hdp := (hok.1 j hj).2.2.2 (Or.inr h1)
              obtain ⟨e1, e2⟩ := wN_a (tv := (tvF p q kd v s d)) (by omega) (by omega) hdp
              rw [if_neg (by omega)] at e2
              refine r_iload rfl 75 rfl d_Exc_holds_73 ?_
              refine r_iconst (nI 1) rfl 76 rfl d_Exc_holds_75 ?_
              refine r_ishr 77 rfl d_Exc_holds_76 ?_
              refine r_topi (nI ((wN (evS (tvF p q kd v s d) tk j) (dp tk j)) >>> 1)) (nI_shr (by have := wN_lt20 (evS (tvF p q kd v s d) tk j) (hok.1 j hj).2.1; omega) (by omega)) ?_
              refine r_iload rfl 79 rfl d_Exc_holds_77 ?_
              refine r_ior 80 rfl d_Exc_holds_79 ?_
              refine r_topi (nI (((wN (evS (tvF p q kd v s d) tk j) (dp tk j)) >>> 1) ||| ((wN (evS (tvF p q kd v s d) tk j) (dp tk j)) &&& 1))) (nx_or _ _) ?_
              refine r_topi (nI (wN (evS (tvF p q kd v s d) tk (j + 1)) (dp tk (j + 1)))) (by rw [e2, e1, w_and1, w_shr, or_bit]) ?_
              refine r_istore (ls2 := [some (.ref (a 0)), some (.int (nI b)), some (.int (nI (b + L))), some (.ref (a 4)), some (.int (nI (wN (evS (tvF p q kd v s d) tk (j + 1)) (dp tk (j + 1))))), some (.int (nI (b + j))), some (.int (σ 1 (b + j))), some (.int (nI ((wN (evS (tvF p q kd v s d) tk j) (dp tk j)) &&& 1))), none]) 82 rfl d_Exc_holds_80 (by decide) rfl rfl ?_
              refine r_goto 126 rfl d_Exc_holds_82 ?_
              refine r_iinc (ls2 := [some (.ref (a 0)), some (.int (nI b)), some (.int (nI (b + L))), some (.ref (a 4)), some (.int (nI (wN (evS (tvF p q kd v s d) tk (j + 1)) (dp tk (j + 1))))), some (.int (nI ((b + j) + 1))), some (.int (σ 1 (b + j))), some (.int (nI ((wN (evS (tvF p q kd v s d) tk j) (dp tk j)) &&& 1))), none]) (nI ((b + j) + 1)) rfl (nI_1 _) 129 rfl d_Exc_holds_126 (by decide) rfl rfl ?_
              refine r_goto 6 rfl d_Exc_holds_129 ?_
              refine r_forget (ls2 := [some (.ref (a 0)), some (.int (nI b)), some (.int (nI (b + L))), some (.ref (a 4)), some (.int (nI (wN (evS (tvF p q kd v s d) tk (j + 1)) (dp tk (j + 1))))), some (.int (nI ((b + j) + 1))), none, some (.int (nI ((wN (evS (tvF p q kd v s d) tk j) (dp tk j)) &&& 1))), none]) 6 rfl ?_
              refine r_forget (ls2 := [some (.ref (a 0)), some (.int (nI b)), some (.int (nI (b + L))), some (.ref (a 4)), some (.int (nI (wN (evS (tvF p q kd v s d) tk (j + 1)) (dp tk (j + 1))))), some (.int (nI ((b + j) + 1))), none, none, none]) 7 rfl ?_
              exact ih2 (j + 1) (by omega) (by omega)
          · have h1 : tk j = 1 := stp_1 (by rw [← hst]; exact h48)
            have hdp := (hok.1 j hj).2.2.2 (Or.inl h1)
            obtain ⟨e1, e2⟩ := wN_a (tv := (tvF p q kd v s d)) (by omega) (by omega) hdp
            rw [if_pos h1] at e2
            have hb21 := wN_lt20 (evS (tvF p q kd v s d) tk j) (d := dp tk j - 2) (by have := (hok.1 j hj).2.1; omega)
            refine r_iload rfl 53 rfl d_Exc_holds_51 ?_
            refine r_iconst (nI 1) rfl 54 rfl d_Exc_holds_53 ?_
            refine r_ishr 55 rfl d_Exc_holds_54 ?_
            refine r_topi (nI ((wN (evS (tvF p q kd v s d) tk j) (dp tk j)) >>> 1)) (nI_shr (by have := wN_lt20 (evS (tvF p q kd v s d) tk j) (hok.1 j hj).2.1; omega) (by omega)) ?_
            refine r_iload rfl 57 rfl d_Exc_holds_55 ?_
            refine r_bipush ((-2)) rfl 59 rfl d_Exc_holds_57 ?_
            refine r_ior 60 rfl d_Exc_holds_59 ?_
            refine r_iand 61 rfl d_Exc_holds_60 ?_
            refine r_topi (nI (wN (evS (tvF p q kd v s d) tk (j + 1)) (dp tk (j + 1)))) (by rw [e2, e1, w_and1, w_shr, w_and _ _ (by omega)]) ?_
            refine r_istore (ls2 := [some (.ref (a 0)), some (.int (nI b)), some (.int (nI (b + L))), some (.ref (a 4)), some (.int (nI (wN (evS (tvF p q kd v s d) tk (j + 1)) (dp tk (j + 1))))), some (.int (nI (b + j))), some (.int (σ 1 (b + j))), some (.int (nI ((wN (evS (tvF p q kd v s d) tk j) (dp tk j)) &&& 1))), none]) 63 rfl d_Exc_holds_61 (by decide) rfl rfl ?_
            refine r_goto 126 rfl d_Exc_holds_63 ?_
            refine r_iinc (ls2 := [some (.ref (a 0)), some (.int (nI b)), some (.int (nI (b + L))), some (.ref (a 4)), some (.int (nI (wN (evS (tvF p q kd v s d) tk (j + 1)) (dp tk (j + 1))))), some (.int (nI ((b + j) + 1))), some (.int (σ 1 (b + j))), some (.int (nI ((wN (evS (tvF p q kd v s d) tk j) (dp tk j)) &&& 1))), none]) (nI ((b + j) + 1)) rfl (nI_1 _) 129 rfl d_Exc_holds_126 (by decide) rfl rfl ?_
            refine r_goto 6 rfl d_Exc_holds_129 ?_
            refine r_forget (ls2 := [some (.ref (a 0)), some (.int (nI b)), some (.int (nI (b + L))), some (.ref (a 4)), some (.int (nI (wN (evS (tvF p q kd v s d) tk (j + 1)) (dp tk (j + 1))))), some (.int (nI ((b + j) + 1))), none, some (.int (nI ((wN (evS (tvF p q kd v s d) tk j) (dp tk j)) &&& 1))), none]) 6 rfl ?_
            refine r_forget (ls2 := [some (.ref (a 0)), some (.int (nI b)), some (.int (nI (b + L))), some (.ref (a 4)), some (.int (nI (wN (evS (tvF p q kd v s d) tk (j + 1)) (dp tk (j + 1))))), some (.int (nI ((b + j) + 1))), none, none, none]) 7 rfl ?_
            exact ih2 (j + 1) (by omega) (by omega)
        · have h0 : tk j = 0 := stp_0 (by rw [← hst]; exact h32)
          obtain ⟨e1, e2⟩ := wN_n (tv := (tvF p q kd v s d)) h0 ((hok.1 j hj).2.2.1 h0)
          refine r_iload rfl 37 rfl d_Exc_holds_35 ?_
          refine r_iconst (nI 1) rfl 38 rfl d_Exc_holds_37 ?_
          refine r_ixor 39 rfl d_Exc_holds_38 ?_
          refine r_topi (nI ((wN (evS (tvF p q kd v s d) tk j) (dp tk j)) ^^^ 1)) (nx_xor _ _) ?_
          refine r_topi (nI (wN (evS (tvF p q kd v s d) tk (j + 1)) (dp tk (j + 1)))) (by rw [e2, e1, xor_1]) ?_
          refine r_istore (ls2 := [some (.ref (a 0)), some (.int (nI b)), some (.int (nI (b + L))), some (.ref (a 4)), some (.int (nI (wN (evS (tvF p q kd v s d) tk (j + 1)) (dp tk (j + 1))))), some (.int (nI (b + j))), some (.int (σ 1 (b + j))), some (.int (nI ((wN (evS (tvF p q kd v s d) tk j) (dp tk j)) &&& 1))), none]) 41 rfl d_Exc_holds_39 (by decide) rfl rfl ?_
          refine r_goto 126 rfl d_Exc_holds_41 ?_
          refine r_iinc (ls2 := [some (.ref (a 0)), some (.int (nI b)), some (.int (nI (b + L))), some (.ref (a 4)), some (.int (nI (wN (evS (tvF p q kd v s d) tk (j + 1)) (dp tk (j + 1))))), some (.int (nI ((b + j) + 1))), some (.int (σ 1 (b + j))), some (.int (nI ((wN (evS (tvF p q kd v s d) tk j) (dp tk j)) &&& 1))), none]) (nI ((b + j) + 1)) rfl (nI_1 _) 129 rfl d_Exc_holds_126 (by decide) rfl rfl ?_
          refine r_goto 6 rfl d_Exc_holds_129 ?_
          refine r_forget (ls2 := [some (.ref (a 0)), some (.int (nI b)), some (.int (nI (b + L))), some (.ref (a 4)), some (.int (nI (wN (evS (tvF p q kd v s d) tk (j + 1)) (dp tk (j + 1))))), some (.int (nI ((b + j) + 1))), none, some (.int (nI ((wN (evS (tvF p q kd v s d) tk j) (dp tk j)) &&& 1))), none]) 6 rfl ?_
          refine r_forget (ls2 := [some (.ref (a 0)), some (.int (nI b)), some (.int (nI (b + L))), some (.ref (a 4)), some (.int (nI (wN (evS (tvF p q kd v s d) tk (j + 1)) (dp tk (j + 1))))), some (.int (nI ((b + j) + 1))), none, none, none]) 7 rfl ?_
          exact ih2 (j + 1) (by omega) (by omega)
  exact L6_1 _ 0 (Nat.zero_le _) (Nat.lt_succ_self _)
theorem c_Exc_force (X : Xn) (a : Nat → Nat) (ν : Nat → Nat → Nat) (σ : Nat → Nat → Int32) (τ : Nat → Nat → Int64) (cx : CX) (p q : Nat) (kd v : Int32) (s d : Nat)  (hC : ν 0 4 = cx.1) (hokC : okC cx) (hcl : clX (σ 1) (σ 2) (σ 3) cx) (hF : σ 4 = fF p q kd v s d) (hs : s ≤ 99) (hd : d < 1000000) : Does X 4 M_Exc_force [.ref (a 0), .ref (a 4)] (EF X a ν σ τ) 0 0 (fun (vv : Option Value) (ww : va_W) => vv = some (.int (fcF cx p q kd v s d cx.1)) ∧ ww = EF X a ν σ τ) := by
  generalize hQ : (fun (vv : Option Value) (ww : va_W) => vv = some (.int (fcF cx p q kd v s d cx.1)) ∧ ww = EF X a ν σ τ) = Q
  refine Does.go rfl (Nat.le_of_ble_eq_true rfl) [some (.ref (a 0)), some (.ref (a 4)), none, none, none, none] 4 rfl ?_
  have hC10 := hokC.1
  refine r_aload_n rfl 1 rfl d_Exc_force_0 ?_
  refine r_getfn (v := .int (σ 4 4)) gf_Exc_35 4 rfl rfl 4 rfl d_Exc_force_1 ?_
  refine r_topi (nI s) (by rw [hF]; rfl) ?_
  refine r_istore_n (ls2 := [some (.ref (a 0)), some (.ref (a 4)), some (.int (nI s)), none, none, none]) 5 rfl d_Exc_force_4 (by decide) rfl rfl ?_
  refine r_iconst (nI 0) rfl 6 rfl d_Exc_force_5 ?_
  refine r_istore_n (ls2 := [some (.ref (a 0)), some (.ref (a 4)), some (.int (nI s)), some (.int (nI 0)), none, none]) 7 rfl d_Exc_force_6 (by decide) rfl rfl ?_
  refine r_iconst (nI 0) rfl 8 rfl d_Exc_force_7 ?_
  refine r_istore (ls2 := [some (.ref (a 0)), some (.ref (a 4)), some (.int (nI s)), some (.int (nI 0)), some (.int (nI 0)), none]) 10 rfl d_Exc_force_8 (by decide) rfl rfl ?_
  have L10_1 : ∀ (f : Nat) (i : Nat), (i ≤ cx.1) → cx.1 - i < f → Runs X 4 M_Exc_force 0 0 Q 10 [some (.ref (a 0)), some (.ref (a 4)), some (.int (fcF cx p q kd v s d i)), some (.int (nI (cx.2.2.1 i))), some (.int (nI i)), none] [] 0 0 (EF X a ν σ τ) := by
    intro f
    induction f with
    | zero => intro i hi hmu; exact absurd hmu (Nat.not_lt_zero _)
    | succ f ih2 =>
      intro i hi hmu
      refine r_iload rfl 12 rfl d_Exc_force_10 ?_
      refine r_aload_n rfl 13 rfl d_Exc_force_12 ?_
      refine r_getf (v := .int (nI (ν 0 4))) gf_Exc_28 0 rfl rfl 16 rfl d_Exc_force_13 ?_
      refine r_icmp_geN i (ν 0 4) (by omega) (by omega) 19 62 rfl rfl d_Exc_force_16 (fun h16 => ?_) (fun h16 => ?_)
      · refine r_iload_n rfl 63 rfl d_Exc_force_62 ?_
        exact r_iret rfl (Nat.zero_le _) (Nat.zero_le _) d_Exc_force_63 (by rw [← hQ]; exact ⟨by rw [show i = cx.1 by omega], rfl⟩)
      · refine r_aload_n rfl 20 rfl d_Exc_force_19 ?_
        refine r_getf (v := .ref (a 2)) gf_Exc_15 0 rfl rfl 23 rfl d_Exc_force_20 ?_
        refine r_iload rfl 25 rfl d_Exc_force_23 ?_
        refine r_callSn1 (st2 := [.int (σ 2 i)]) (w2 := EF X a ν σ τ) lk_HB_at ln_Exc_40 (c_at X _ 10 i (σ 2) (by omega) (by decide)) (by first | decide | omega) rfl rfl (Nat.le_of_ble_eq_true rfl) (Nat.le_of_ble_eq_true rfl) (Nat.le_of_ble_eq_true rfl) [2] rfl rfl rfl rfl rfl 28 rfl d_Exc_force_25 ?_
        obtain ⟨o1, o2, o3⟩ := hokC.2.2 i (by omega)
        obtain ⟨c1, c2, c3⟩ := hcl i (by omega)
        refine r_topi (nI (cx.2.2.1 i + (cx.2.2.1 (i + 1) - cx.2.2.1 i))) (by rw [c1]; congr 1; omega) ?_
        refine r_istore (ls2 := [some (.ref (a 0)), some (.ref (a 4)), some (.int (fcF cx p q kd v s d i)), some (.int (nI (cx.2.2.1 i))), some (.int (nI i)), some (.int (nI (cx.2.2.1 i + (cx.2.2.1 (i + 1) - cx.2.2.1 i))))]) 30 rfl d_Exc_force_28 (by decide) rfl rfl ?_
        refine r_aload_n rfl 31 rfl d_Exc_force_30 ?_
        refine r_iload_n rfl 32 rfl d_Exc_force_31 ?_
        refine r_iload rfl 34 rfl d_Exc_force_32 ?_
        refine r_aload_n rfl 35 rfl d_Exc_force_34 ?_
        refine r_callVA1 (st2 := [.int (bI (truC cx p q kd v s d i))]) (w2 := EF X a ν σ τ) lk_Exc_holds ln_Exc_44 (c_Exc_holds X a ν σ τ p q kd v s d hF (by omega) hd (cx.2.2.1 i) (cx.2.2.1 (i + 1) - cx.2.2.1 i) (cx.2.2.2 i) (by omega) o3 c3) (by first | decide | omega) rfl rfl (Nat.le_of_ble_eq_true rfl) (Nat.le_of_ble_eq_true rfl) (Nat.le_of_ble_eq_true rfl) 0 rfl rfl rfl rfl 38 rfl d_Exc_force_35 ?_
        refine r_if_eqB 41 53 rfl rfl d_Exc_force_38 (fun h38 => ?_) (fun h38 => ?_)
        · refine r_iload rfl 55 rfl d_Exc_force_53 ?_
          refine r_istore_n (ls2 := [some (.ref (a 0)), some (.ref (a 4)), some (.int (fcF cx p q kd v s d i)), some (.int (nI (cx.2.2.1 i + (cx.2.2.1 (i + 1) - cx.2.2.1 i)))), some (.int (nI i)), some (.int (nI (cx.2.2.1 i + (cx.2.2.1 (i + 1) - cx.2.2.1 i))))]) 56 rfl d_Exc_force_55 (by decide) rfl rfl ?_
          refine r_iinc (ls2 := [some (.ref (a 0)), some (.ref (a 4)), some (.int (fcF cx p q kd v s d i)), some (.int (nI (cx.2.2.1 i + (cx.2.2.1 (i + 1) - cx.2.2.1 i)))), some (.int (nI (i + 1))), some (.int (nI (cx.2.2.1 i + (cx.2.2.1 (i + 1) - cx.2.2.1 i))))]) (nI (i + 1)) rfl (nI_1 _) 59 rfl d_Exc_force_56 (by decide) rfl rfl ?_
          refine r_goto 10 rfl d_Exc_force_59 ?_
          refine r_forget (ls2 := [some (.ref (a 0)), some (.ref (a 4)), some (.int (fcF cx p q kd v s d i)), some (.int (nI (cx.2.2.1 i + (cx.2.2.1 (i + 1) - cx.2.2.1 i)))), some (.int (nI (i + 1))), none]) 5 rfl ?_
          refine Runs.cast (ih2 (i + 1) (by omega) (by omega)) (by rw [show cx.2.2.1 i + (cx.2.2.1 (i + 1) - cx.2.2.1 i) = cx.2.2.1 (i + 1) by omega, fcF, if_neg (fun z => by rw [z] at h38; cases h38)]; try rfl) rfl (rfl)
        · refine r_iload_n rfl 42 rfl d_Exc_force_41 ?_
          refine r_aload_n rfl 43 rfl d_Exc_force_42 ?_
          refine r_getf (v := .ref (a 3)) gf_Exc_18 0 rfl rfl 46 rfl d_Exc_force_43 ?_
          refine r_iload rfl 48 rfl d_Exc_force_46 ?_
          refine r_callSn1 (st2 := [.int (σ 3 i), .int (fcF cx p q kd v s d i)]) (w2 := EF X a ν σ τ) lk_HB_at ln_Exc_40 (c_at X _ 10 i (σ 3) (by omega) (by decide)) (by first | decide | omega) rfl rfl (Nat.le_of_ble_eq_true rfl) (Nat.le_of_ble_eq_true rfl) (Nat.le_of_ble_eq_true rfl) [3] rfl rfl rfl rfl rfl 51 rfl d_Exc_force_48 ?_
          refine r_iadd 52 rfl d_Exc_force_51 ?_
          refine r_istore_n (ls2 := [some (.ref (a 0)), some (.ref (a 4)), some (.int ((fcF cx p q kd v s d i) + (σ 3 i))), some (.int (nI (cx.2.2.1 i))), some (.int (nI i)), some (.int (nI (cx.2.2.1 i + (cx.2.2.1 (i + 1) - cx.2.2.1 i))))]) 53 rfl d_Exc_force_52 (by decide) rfl rfl ?_
          refine r_iload rfl 55 rfl d_Exc_force_53 ?_
          refine r_istore_n (ls2 := [some (.ref (a 0)), some (.ref (a 4)), some (.int ((fcF cx p q kd v s d i) + (σ 3 i))), some (.int (nI (cx.2.2.1 i + (cx.2.2.1 (i + 1) - cx.2.2.1 i)))), some (.int (nI i)), some (.int (nI (cx.2.2.1 i + (cx.2.2.1 (i + 1) - cx.2.2.1 i))))]) 56 rfl d_Exc_force_55 (by decide) rfl rfl ?_
          refine r_iinc (ls2 := [some (.ref (a 0)), some (.ref (a 4)), some (.int ((fcF cx p q kd v s d i) + (σ 3 i))), some (.int (nI (cx.2.2.1 i + (cx.2.2.1 (i + 1) - cx.2.2.1 i)))), some (.int (nI (i + 1))), some (.int (nI (cx.2.2.1 i + (cx.2.2.1 (i + 1) - cx.2.2.1 i))))]) (nI (i + 1)) rfl (nI_1 _) 59 rfl d_Exc_force_56 (by decide) rfl rfl ?_
          refine r_goto 10 rfl d_Exc_force_59 ?_
          refine r_forget (ls2 := [some (.ref (a 0)), some (.ref (a 4)), some (.int ((fcF cx p q kd v s d i) + (σ 3 i))), some (.int (nI (cx.2.2.1 i + (cx.2.2.1 (i + 1) - cx.2.2.1 i)))), some (.int (nI (i + 1))), none]) 5 rfl ?_
          refine Runs.cast (ih2 (i + 1) (by omega) (by omega)) (by rw [show cx.2.2.1 i + (cx.2.2.1 (i + 1) - cx.2.2.1 i) = cx.2.2.1 (i + 1) by omega, fcF, if_pos h38, c2]; try rfl) rfl (rfl)
  refine Runs.cast (L10_1 _ 0 (Nat.zero_le _) (Nat.lt_succ_self _)) (by rw [hokC.2.1]; rfl) rfl (rfl)
theorem c_Exc_clear (X : Xn) (a : Nat → Nat) (ν : Nat → Nat → Nat) (σ : Nat → Nat → Int32) (τ : Nat → Nat → Int64)   : Does X 1 M_Exc_clear [.ref (a 0)] (EW X a ν σ τ) 0 0 (fun (vv : Option Value) (ww : va_W) => vv = none ∧ ww = EW X a (pu (pu (pu ν 0 (u1 (ν 0) 3 0)) 0 (u1 (u1 (ν 0) 3 0) 4 0)) 0 (u1 (u1 (u1 (ν 0) 3 0) 4 0) 5 5)) σ τ) := by
  generalize hQ : (fun (vv : Option Value) (ww : va_W) => vv = none ∧ ww = EW X a (pu (pu (pu ν 0 (u1 (ν 0) 3 0)) 0 (u1 (u1 (ν 0) 3 0) 4 0)) 0 (u1 (u1 (u1 (ν 0) 3 0) 4 0) 5 5)) σ τ) = Q
  refine Does.go rfl (Nat.le_of_ble_eq_true rfl) [some (.ref (a 0))] 0 rfl ?_
  refine r_aload_n rfl 1 rfl d_Exc_clear_0 ?_
  refine r_iconst (nI 0) rfl 2 rfl d_Exc_clear_1 ?_
  refine r_putf (w2 := EW X a (pu ν 0 (u1 (ν 0) 3 0)) σ τ) pf_Exc_25 0 rfl (rfl) rfl (Nat.le_of_ble_eq_true rfl) rfl 5 rfl d_Exc_clear_2 ?_
  refine r_aload_n rfl 6 rfl d_Exc_clear_5 ?_
  refine r_iconst (nI 0) rfl 7 rfl d_Exc_clear_6 ?_
  refine r_putf (w2 := EW X a (pu (pu ν 0 (u1 (ν 0) 3 0)) 0 (u1 (u1 (ν 0) 3 0) 4 0)) σ τ) pf_Exc_28 0 rfl (rfl) rfl (Nat.le_of_ble_eq_true rfl) rfl 10 rfl d_Exc_clear_7 ?_
  refine r_aload_n rfl 11 rfl d_Exc_clear_10 ?_
  refine r_iconst (nI 5) rfl 12 rfl d_Exc_clear_11 ?_
  refine r_putf (w2 := EW X a (pu (pu (pu ν 0 (u1 (ν 0) 3 0)) 0 (u1 (u1 (ν 0) 3 0) 4 0)) 0 (u1 (u1 (u1 (ν 0) 3 0) 4 0) 5 5)) σ τ) pf_Exc_21 0 rfl (rfl) rfl (Nat.le_of_ble_eq_true rfl) rfl 15 rfl d_Exc_clear_12 ?_
  exact r_vret rfl (Nat.zero_le _) (Nat.zero_le _) d_Exc_clear_15 (by rw [← hQ]; exact ⟨rfl, rfl⟩)
theorem c_Exc_addStep (X : Xn) (a : Nat → Nat) (ν : Nat → Nat → Nat) (σ : Nat → Nat → Int32) (τ : Nat → Nat → Int64)  (x : Int32) (hz : ν 0 3 < 100) : Does X 2 M_Exc_addStep [.ref (a 0), .int x] (EW X a ν σ τ) 0 0 (fun (vv : Option Value) (ww : va_W) => vv = none ∧ ww = EW X a (pu ν 0 (u1 (ν 0) 3 ((ν 0 3) + 1))) (u2 σ 1 (upd (σ 1) (ν 0 3) x)) τ) := by
  generalize hQ : (fun (vv : Option Value) (ww : va_W) => vv = none ∧ ww = EW X a (pu ν 0 (u1 (ν 0) 3 ((ν 0 3) + 1))) (u2 σ 1 (upd (σ 1) (ν 0 3) x)) τ) = Q
  refine Does.go rfl (Nat.le_of_ble_eq_true rfl) [some (.ref (a 0)), some (.int x)] 0 rfl ?_
  refine r_aload_n rfl 1 rfl d_Exc_addStep_0 ?_
  refine r_getf (v := .ref (a 1)) gf_Exc_9 0 rfl rfl 4 rfl d_Exc_addStep_1 ?_
  refine r_aload_n rfl 5 rfl d_Exc_addStep_4 ?_
  refine r_getf (v := .int (nI (ν 0 3))) gf_Exc_25 0 rfl rfl 8 rfl d_Exc_addStep_5 ?_
  refine r_iload_n rfl 9 rfl d_Exc_addStep_8 ?_
  refine r_callSn1 (st2 := []) (w2 := EW X a ν (u2 σ 1 (upd (σ 1) (ν 0 3) x)) τ) lk_HB_put ln_Exc_31 (c_put X _ 100 (ν 0 3) x (σ 1) (by omega) (by decide)) (by first | decide | omega) rfl rfl (Nat.le_of_ble_eq_true rfl) (Nat.le_of_ble_eq_true rfl) (Nat.le_of_ble_eq_true rfl) [1] rfl rfl rfl rfl rfl 12 rfl d_Exc_addStep_9 ?_
  refine r_aload_n rfl 13 rfl d_Exc_addStep_12 ?_
  refine r_dup rfl 14 rfl d_Exc_addStep_13 ?_
  refine r_getf (v := .int (nI (ν 0 3))) gf_Exc_25 0 rfl rfl 17 rfl d_Exc_addStep_14 ?_
  refine r_iconst (nI 1) rfl 18 rfl d_Exc_addStep_17 ?_
  refine r_iadd 19 rfl d_Exc_addStep_18 ?_
  refine r_topi (nI ((ν 0 3) + 1)) (nI_add _ _) ?_
  refine r_putf (w2 := EW X a (pu ν 0 (u1 (ν 0) 3 ((ν 0 3) + 1))) (u2 σ 1 (upd (σ 1) (ν 0 3) x)) τ) pf_Exc_25 0 rfl (rfl) rfl (Nat.le_of_ble_eq_true rfl) rfl 22 rfl d_Exc_addStep_19 ?_
  exact r_vret rfl (Nat.zero_le _) (Nat.zero_le _) d_Exc_addStep_22 (by rw [← hQ]; exact ⟨rfl, rfl⟩)
theorem c_Exc_addTest (X : Xn) (a : Nat → Nat) (ν : Nat → Nat → Nat) (σ : Nat → Nat → Int32) (τ : Nat → Nat → Int64)  (l : Nat) (g : Nat) (n : Nat) (hz : ν 0 3 < 100) (hl : l < 128) (hg : g < 128) (hn : n < 128) : Does X 2 M_Exc_addTest [.ref (a 0), .int (nI l), .int (nI g), .int (nI n)] (EW X a ν σ τ) 0 0 (fun (vv : Option Value) (ww : va_W) => vv = none ∧ ww = EW X a (pu ν 0 (u1 (ν 0) 3 ((ν 0 3) + 1))) (u2 σ 1 (upd (σ 1) (ν 0 3) (nI (l * 16384 + (g * 128 + n))))) τ) := by
  generalize hQ : (fun (vv : Option Value) (ww : va_W) => vv = none ∧ ww = EW X a (pu ν 0 (u1 (ν 0) 3 ((ν 0 3) + 1))) (u2 σ 1 (upd (σ 1) (ν 0 3) (nI (l * 16384 + (g * 128 + n))))) τ) = Q
  refine Does.go rfl (Nat.le_of_ble_eq_true rfl) [some (.ref (a 0)), some (.int (nI l)), some (.int (nI g)), some (.int (nI n))] 0 rfl ?_
  refine r_aload_n rfl 1 rfl d_Exc_addTest_0 ?_
  refine r_getf (v := .ref (a 1)) gf_Exc_9 0 rfl rfl 4 rfl d_Exc_addTest_1 ?_
  refine r_aload_n rfl 5 rfl d_Exc_addTest_4 ?_
  refine r_getf (v := .int (nI (ν 0 3))) gf_Exc_25 0 rfl rfl 8 rfl d_Exc_addTest_5 ?_
  refine r_iload_n rfl 9 rfl d_Exc_addTest_8 ?_
  refine r_bipush (nI 14) rfl 11 rfl d_Exc_addTest_9 ?_
  refine r_ishl 12 rfl d_Exc_addTest_11 ?_
  refine r_topi (nI (l <<< 14)) (nI_shl (by omega) (by omega)) ?_
  refine r_iload_n rfl 13 rfl d_Exc_addTest_12 ?_
  refine r_bipush (nI 7) rfl 15 rfl d_Exc_addTest_13 ?_
  refine r_ishl 16 rfl d_Exc_addTest_15 ?_
  refine r_topi (nI (g <<< 7)) (nI_shl (by omega) (by omega)) ?_
  refine r_ior 17 rfl d_Exc_addTest_16 ?_
  refine r_topi (nI ((l <<< 14) ||| (g <<< 7))) (nx_or _ _) ?_
  refine r_iload_n rfl 18 rfl d_Exc_addTest_17 ?_
  refine r_ior 19 rfl d_Exc_addTest_18 ?_
  refine r_topi (nI (((l <<< 14) ||| (g <<< 7)) ||| n)) (nx_or _ _) ?_
  refine r_topi (nI (l * 16384 + (g * 128 + n))) (congrArg nI (or3 hg hn)) ?_
  refine r_callSn1 (st2 := []) (w2 := EW X a ν (u2 σ 1 (upd (σ 1) (ν 0 3) (nI (l * 16384 + (g * 128 + n))))) τ) lk_HB_put ln_Exc_31 (c_put X _ 100 (ν 0 3) (nI (l * 16384 + (g * 128 + n))) (σ 1) (by omega) (by decide)) (by first | decide | omega) rfl rfl (Nat.le_of_ble_eq_true rfl) (Nat.le_of_ble_eq_true rfl) (Nat.le_of_ble_eq_true rfl) [1] rfl rfl rfl rfl rfl 22 rfl d_Exc_addTest_19 ?_
  refine r_aload_n rfl 23 rfl d_Exc_addTest_22 ?_
  refine r_dup rfl 24 rfl d_Exc_addTest_23 ?_
  refine r_getf (v := .int (nI (ν 0 3))) gf_Exc_25 0 rfl rfl 27 rfl d_Exc_addTest_24 ?_
  refine r_iconst (nI 1) rfl 28 rfl d_Exc_addTest_27 ?_
  refine r_iadd 29 rfl d_Exc_addTest_28 ?_
  refine r_topi (nI ((ν 0 3) + 1)) (nI_add _ _) ?_
  refine r_putf (w2 := EW X a (pu ν 0 (u1 (ν 0) 3 ((ν 0 3) + 1))) (u2 σ 1 (upd (σ 1) (ν 0 3) (nI (l * 16384 + (g * 128 + n))))) τ) pf_Exc_25 0 rfl (rfl) rfl (Nat.le_of_ble_eq_true rfl) rfl 32 rfl d_Exc_addTest_29 ?_
  exact r_vret rfl (Nat.zero_le _) (Nat.zero_le _) d_Exc_addTest_32 (by rw [← hQ]; exact ⟨rfl, rfl⟩)
theorem c_Exc_endClause (X : Xn) (a : Nat → Nat) (ν : Nat → Nat → Nat) (σ : Nat → Nat → Int32) (τ : Nat → Nat → Int64)  (x : Int32) (hz : ν 0 4 < 10) : Does X 2 M_Exc_endClause [.ref (a 0), .int x] (EW X a ν σ τ) 0 0 (fun (vv : Option Value) (ww : va_W) => vv = none ∧ ww = EW X a (pu ν 0 (u1 (ν 0) 4 ((ν 0 4) + 1))) (u2 (u2 σ 2 (upd (σ 2) (ν 0 4) (nI (ν 0 3)))) 3 (upd (σ 3) (ν 0 4) x)) τ) := by
  generalize hQ : (fun (vv : Option Value) (ww : va_W) => vv = none ∧ ww = EW X a (pu ν 0 (u1 (ν 0) 4 ((ν 0 4) + 1))) (u2 (u2 σ 2 (upd (σ 2) (ν 0 4) (nI (ν 0 3)))) 3 (upd (σ 3) (ν 0 4) x)) τ) = Q
  refine Does.go rfl (Nat.le_of_ble_eq_true rfl) [some (.ref (a 0)), some (.int x)] 0 rfl ?_
  refine r_aload_n rfl 1 rfl d_Exc_endClause_0 ?_
  refine r_getf (v := .ref (a 2)) gf_Exc_15 0 rfl rfl 4 rfl d_Exc_endClause_1 ?_
  refine r_aload_n rfl 5 rfl d_Exc_endClause_4 ?_
  refine r_getf (v := .int (nI (ν 0 4))) gf_Exc_28 0 rfl rfl 8 rfl d_Exc_endClause_5 ?_
  refine r_aload_n rfl 9 rfl d_Exc_endClause_8 ?_
  refine r_getf (v := .int (nI (ν 0 3))) gf_Exc_25 0 rfl rfl 12 rfl d_Exc_endClause_9 ?_
  refine r_callSn1 (st2 := []) (w2 := EW X a ν (u2 σ 2 (upd (σ 2) (ν 0 4) (nI (ν 0 3)))) τ) lk_HB_put ln_Exc_31 (c_put X _ 10 (ν 0 4) (nI (ν 0 3)) (σ 2) (by omega) (by decide)) (by first | decide | omega) rfl rfl (Nat.le_of_ble_eq_true rfl) (Nat.le_of_ble_eq_true rfl) (Nat.le_of_ble_eq_true rfl) [2] rfl rfl rfl rfl rfl 15 rfl d_Exc_endClause_12 ?_
  refine r_aload_n rfl 16 rfl d_Exc_endClause_15 ?_
  refine r_getf (v := .ref (a 3)) gf_Exc_18 0 rfl rfl 19 rfl d_Exc_endClause_16 ?_
  refine r_aload_n rfl 20 rfl d_Exc_endClause_19 ?_
  refine r_getf (v := .int (nI (ν 0 4))) gf_Exc_28 0 rfl rfl 23 rfl d_Exc_endClause_20 ?_
  refine r_iload_n rfl 24 rfl d_Exc_endClause_23 ?_
  refine r_callSn1 (st2 := []) (w2 := EW X a ν (u2 (u2 σ 2 (upd (σ 2) (ν 0 4) (nI (ν 0 3)))) 3 (upd (σ 3) (ν 0 4) x)) τ) lk_HB_put ln_Exc_31 (c_put X _ 10 (ν 0 4) x (σ 3) (by omega) (by decide)) (by first | decide | omega) rfl rfl (Nat.le_of_ble_eq_true rfl) (Nat.le_of_ble_eq_true rfl) (Nat.le_of_ble_eq_true rfl) [3] rfl rfl rfl rfl rfl 27 rfl d_Exc_endClause_24 ?_
  refine r_aload_n rfl 28 rfl d_Exc_endClause_27 ?_
  refine r_dup rfl 29 rfl d_Exc_endClause_28 ?_
  refine r_getf (v := .int (nI (ν 0 4))) gf_Exc_28 0 rfl rfl 32 rfl d_Exc_endClause_29 ?_
  refine r_iconst (nI 1) rfl 33 rfl d_Exc_endClause_32 ?_
  refine r_iadd 34 rfl d_Exc_endClause_33 ?_
  refine r_topi (nI ((ν 0 4) + 1)) (nI_add _ _) ?_
  refine r_putf (w2 := EW X a (pu ν 0 (u1 (ν 0) 4 ((ν 0 4) + 1))) (u2 (u2 σ 2 (upd (σ 2) (ν 0 4) (nI (ν 0 3)))) 3 (upd (σ 3) (ν 0 4) x)) τ) pf_Exc_28 0 rfl (rfl) rfl (Nat.le_of_ble_eq_true rfl) rfl 37 rfl d_Exc_endClause_34 ?_
  exact r_vret rfl (Nat.zero_le _) (Nat.zero_le _) d_Exc_endClause_37 (by rw [← hQ]; exact ⟨rfl, rfl⟩)
theorem c_Tap_has (X : Xn) (a : Nat → Nat) (ν : Nat → Nat → Nat) (σ : Nat → Nat → Int32) (τ : Nat → Nat → Int64)  (i : Int32) (hz : ν 0 2 ≤ 60) : Does X 1 M_Tap_has [.ref (a 0), .int i] (TW X a ν σ τ) 0 0 (fun (vv : Option Value) (ww : va_W) => vv = some (.int (bI (inR i (nI 0) (nI (ν 0 2) - 1)))) ∧ ww = TW X a ν σ τ) := by
  generalize hQ : (fun (vv : Option Value) (ww : va_W) => vv = some (.int (bI (inR i (nI 0) (nI (ν 0 2) - 1)))) ∧ ww = TW X a ν σ τ) = Q
  refine Does.go rfl (Nat.le_of_ble_eq_true rfl) [some (.ref (a 0)), some (.int i)] 0 rfl ?_
  refine r_iload_n rfl 1 rfl d_Tap_has_0 ?_
  refine r_if_lt 4 25 rfl rfl d_Tap_has_1 (fun h1 => ?_) (fun h1 => ?_)
  · refine r_iconst (nI 0) rfl 26 rfl d_Tap_has_25 ?_
    exact r_zret rfl (rfl) (Nat.zero_le _) (Nat.zero_le _) d_Tap_has_26 (by rw [← hQ]; exact ⟨vB_f (has_f1 h1), rfl⟩)
  · refine r_iload_n rfl 5 rfl d_Tap_has_4 ?_
    refine r_aload_n rfl 6 rfl d_Tap_has_5 ?_
    refine r_getf (v := .int (nI (ν 0 2))) gf_Tap_28 0 rfl rfl 9 rfl d_Tap_has_6 ?_
    refine r_icmp_ge 12 25 rfl rfl d_Tap_has_9 (fun h9 => ?_) (fun h9 => ?_)
    · refine r_iconst (nI 0) rfl 26 rfl d_Tap_has_25 ?_
      exact r_zret rfl (rfl) (Nat.zero_le _) (Nat.zero_le _) d_Tap_has_26 (by rw [← hQ]; exact ⟨vB_f (has_f2 h9 hz), rfl⟩)
    · refine r_iload_n rfl 13 rfl d_Tap_has_12 ?_
      refine r_aload_n rfl 14 rfl d_Tap_has_13 ?_
      refine r_getf (v := .ref (a 1)) gf_Tap_9 0 rfl rfl 17 rfl d_Tap_has_14 ?_
      refine r_alenJ 1 rfl 18 rfl d_Tap_has_17 ?_
      refine r_icmp_ge_f 21 rfl 25 rfl d_Tap_has_18 (has_b h9 hz) ?_
      refine r_iconst (nI 1) rfl 22 rfl d_Tap_has_21 ?_
      refine r_goto 26 rfl d_Tap_has_22 ?_
      exact r_zret rfl (rfl) (Nat.zero_le _) (Nat.zero_le _) d_Tap_has_26 (by rw [← hQ]; exact ⟨vB_t (has_t h1 h9 hz), rfl⟩)
theorem c_Tap_cut (X : Xn) (a : Nat → Nat) (ν : Nat → Nat → Nat) (σ : Nat → Nat → Int32) (τ : Nat → Nat → Int64)  (v : Int64) : Does X 1 M_Tap_cut [.ref (a 0), .long v] (TW X a ν σ τ) 0 0 (fun (vv : Option Value) (ww : va_W) => vv = some (.long (keptC ((σ 0) 1) v)) ∧ ww = TW X a ν σ τ) := by
  generalize hQ : (fun (vv : Option Value) (ww : va_W) => vv = some (.long (keptC ((σ 0) 1) v)) ∧ ww = TW X a ν σ τ) = Q
  refine Does.go rfl (Nat.le_of_ble_eq_true rfl) [some (.ref (a 0)), some (.long v), none] 0 rfl ?_
  refine r_aload_n rfl 1 rfl d_Tap_cut_0 ?_
  refine r_getf (v := .int (σ 0 1)) gf_Tap_15 0 rfl rfl 4 rfl d_Tap_cut_1 ?_
  by_cases h4_0 : σ 0 1 = 0
  · refine r_tableIn 40 d_Tap_cut_4 (by rw [h4_0]; decide) (by rw [h4_0]; decide) (by rw [h4_0]; try rfl) rfl ?_
    refine r_lload_n rfl 41 rfl d_Tap_cut_40 ?_
    refine r_l2i 42 rfl d_Tap_cut_41 ?_
    refine r_i2b 43 rfl d_Tap_cut_42 ?_
    refine r_i2l 44 rfl d_Tap_cut_43 ?_
    exact r_lret rfl (Nat.zero_le _) (Nat.zero_le _) d_Tap_cut_44 (by rw [← hQ]; exact ⟨by simp [keptC, h4_0], rfl⟩)
  by_cases h4_1 : σ 0 1 = 1
  · refine r_tableIn 45 d_Tap_cut_4 (by rw [h4_1]; decide) (by rw [h4_1]; decide) (by rw [h4_1]; try rfl) rfl ?_
    refine r_lload_n rfl 46 rfl d_Tap_cut_45 ?_
    refine r_l2i 47 rfl d_Tap_cut_46 ?_
    refine r_i2s 48 rfl d_Tap_cut_47 ?_
    refine r_i2l 49 rfl d_Tap_cut_48 ?_
    exact r_lret rfl (Nat.zero_le _) (Nat.zero_le _) d_Tap_cut_49 (by rw [← hQ]; exact ⟨by simp [keptC, h4_1], rfl⟩)
  by_cases h4_2 : σ 0 1 = 2
  · refine r_tableIn 50 d_Tap_cut_4 (by rw [h4_2]; decide) (by rw [h4_2]; decide) (by rw [h4_2]; try rfl) rfl ?_
    refine r_lload_n rfl 51 rfl d_Tap_cut_50 ?_
    refine r_l2i 52 rfl d_Tap_cut_51 ?_
    refine r_i2l 53 rfl d_Tap_cut_52 ?_
    exact r_lret rfl (Nat.zero_le _) (Nat.zero_le _) d_Tap_cut_53 (by rw [← hQ]; exact ⟨by simp [keptC, h4_2], rfl⟩)
  by_cases h4_3 : σ 0 1 = 3
  · refine r_tableIn 66 d_Tap_cut_4 (by rw [h4_3]; decide) (by rw [h4_3]; decide) (by rw [h4_3]; try rfl) rfl ?_
    refine r_lload_n rfl 67 rfl d_Tap_cut_66 ?_
    exact r_lret rfl (Nat.zero_le _) (Nat.zero_le _) d_Tap_cut_67 (by rw [← hQ]; exact ⟨by simp [keptC, h4_3], rfl⟩)
  by_cases h4_4 : σ 0 1 = 4
  · refine r_tableIn 54 d_Tap_cut_4 (by rw [h4_4]; decide) (by rw [h4_4]; decide) (by rw [h4_4]; try rfl) rfl ?_
    refine r_lload_n rfl 55 rfl d_Tap_cut_54 ?_
    refine r_lconst 0 rfl 56 rfl d_Tap_cut_55 ?_
    refine r_lcmp 57 rfl d_Tap_cut_56 ?_
    refine r_if_eq 60 64 rfl rfl d_Tap_cut_57 (fun h57 => ?_) (fun h57 => ?_)
    · rw [lg_n0] at h57
      refine r_lconst 0 rfl 65 rfl d_Tap_cut_64 ?_
      exact r_lret rfl (Nat.zero_le _) (Nat.zero_le _) d_Tap_cut_65 (by rw [← hQ]; exact ⟨by simp [keptC, h4_4, h57], rfl⟩)
    · rw [lg_n0] at h57
      refine r_lconst 1 rfl 61 rfl d_Tap_cut_60 ?_
      refine r_goto 65 rfl d_Tap_cut_61 ?_
      exact r_lret rfl (Nat.zero_le _) (Nat.zero_le _) d_Tap_cut_65 (by rw [← hQ]; exact ⟨by simp [keptC, h4_4, h57], rfl⟩)
  have t4_0 : ¬ (σ 0 1).toInt = 0 := lv_neT h4_0 (by decide)
  have t4_1 : ¬ (σ 0 1).toInt = 1 := lv_neT h4_1 (by decide)
  have t4_2 : ¬ (σ 0 1).toInt = 2 := lv_neT h4_2 (by decide)
  have t4_3 : ¬ (σ 0 1).toInt = 3 := lv_neT h4_3 (by decide)
  have t4_4 : ¬ (σ 0 1).toInt = 4 := lv_neT h4_4 (by decide)
  refine r_tableOut 66 d_Tap_cut_4 (by omega) rfl ?_
  refine r_lload_n rfl 67 rfl d_Tap_cut_66 ?_
  exact r_lret rfl (Nat.zero_le _) (Nat.zero_le _) d_Tap_cut_67 (by rw [← hQ]; exact ⟨by simp [keptC, h4_0, h4_1, h4_2, h4_3, h4_4], rfl⟩)
theorem c_Tap_become (X : Xn) (a : Nat → Nat) (ν : Nat → Nat → Nat) (σ : Nat → Nat → Int32) (τ : Nat → Nat → Int64)  (x : Int32) (n : Nat) (hn : n ≤ 60) : Does X 1 M_Tap_become [.ref (a 0), .int x, .int (nI n)] (TW X a ν σ τ) 0 0 (fun (vv : Option Value) (ww : va_W) => vv = none ∧ ww = TW X a (pu ν 0 (u1 (ν 0) 2 n)) (u2 σ 0 (upd (σ 0) 1 x)) (pu τ 1 (zeroL (τ 1) 0 60))) := by
  generalize hQ : (fun (vv : Option Value) (ww : va_W) => vv = none ∧ ww = TW X a (pu ν 0 (u1 (ν 0) 2 n)) (u2 σ 0 (upd (σ 0) 1 x)) (pu τ 1 (zeroL (τ 1) 0 60))) = Q
  refine Does.go rfl (Nat.le_of_ble_eq_true rfl) [some (.ref (a 0)), some (.int x), some (.int (nI n)), none] 1 rfl ?_
  refine r_aload_n rfl 1 rfl d_Tap_become_0 ?_
  refine r_iload_n rfl 2 rfl d_Tap_become_1 ?_
  refine r_putf (w2 := TW X a ν (u2 σ 0 (upd (σ 0) 1 x)) τ) pf_Tap_15 0 rfl (rfl) rfl (Nat.le_of_ble_eq_true rfl) rfl 5 rfl d_Tap_become_2 ?_
  refine r_aload_n rfl 6 rfl d_Tap_become_5 ?_
  refine r_iconst (nI 0) rfl 7 rfl d_Tap_become_6 ?_
  refine r_iload_n rfl 8 rfl d_Tap_become_7 ?_
  refine r_aload_n rfl 9 rfl d_Tap_become_8 ?_
  refine r_getf (v := .ref (a 1)) gf_Tap_9 0 rfl rfl 12 rfl d_Tap_become_9 ?_
  refine r_alenJ 1 rfl 13 rfl d_Tap_become_12 ?_
  refine r_mmin (inTB 816 (by decide +kernel) rfl) (by first | decide | omega) (Nat.le_of_ble_eq_true rfl) (Nat.le_of_ble_eq_true rfl) (Nat.le_of_ble_eq_true rfl) 16 rfl d_Tap_become_13 ?_
  refine r_topi (nI (n)) (mn_60 hn) ?_
  refine r_mmax (inTB 817 (by decide +kernel) rfl) (by first | decide | omega) (Nat.le_of_ble_eq_true rfl) (Nat.le_of_ble_eq_true rfl) (Nat.le_of_ble_eq_true rfl) 19 rfl d_Tap_become_16 ?_
  refine r_topi (nI (n)) (mx_0 (by omega)) ?_
  refine r_putf (w2 := TW X a (pu ν 0 (u1 (ν 0) 2 n)) (u2 σ 0 (upd (σ 0) 1 x)) τ) pf_Tap_28 0 rfl (rfl) rfl (Nat.le_of_ble_eq_true rfl) rfl 22 rfl d_Tap_become_19 ?_
  refine r_iconst (nI 0) rfl 23 rfl d_Tap_become_22 ?_
  refine r_istore_n (ls2 := [some (.ref (a 0)), some (.int x), some (.int (nI n)), some (.int (nI 0))]) 24 rfl d_Tap_become_23 (by decide) rfl rfl ?_
  have L24_1 : ∀ (f : Nat) (k : Nat), (k ≤ 60) → 60 - k < f → Runs X 1 M_Tap_become 0 0 Q 24 [some (.ref (a 0)), some (.int x), some (.int (nI n)), some (.int (nI k))] [] 0 0 (TW X a (pu ν 0 (u1 (ν 0) 2 n)) (u2 σ 0 (upd (σ 0) 1 x)) (pu τ 1 (zeroL (τ 1) 0 k))) := by
    intro f
    induction f with
    | zero => intro k hk hmu; exact absurd hmu (Nat.not_lt_zero _)
    | succ f ih2 =>
      intro k hk hmu
      refine r_iload_n rfl 25 rfl d_Tap_become_24 ?_
      refine r_aload_n rfl 26 rfl d_Tap_become_25 ?_
      refine r_getf (v := .ref (a 1)) gf_Tap_9 0 rfl rfl 29 rfl d_Tap_become_26 ?_
      refine r_alenJ 1 rfl 30 rfl d_Tap_become_29 ?_
      refine r_icmp_geN k 60 (by omega) (by omega) 33 46 rfl rfl d_Tap_become_30 (fun h30 => ?_) (fun h30 => ?_)
      · exact r_vret rfl (Nat.zero_le _) (Nat.zero_le _) d_Tap_become_46 (by rw [← hQ]; exact ⟨rfl, by rw [show k = 60 by omega]⟩)
      · refine r_aload_n rfl 34 rfl d_Tap_become_33 ?_
        refine r_getf (v := .ref (a 1)) gf_Tap_9 0 rfl rfl 37 rfl d_Tap_become_34 ?_
        refine r_iload_n rfl 38 rfl d_Tap_become_37 ?_
        refine r_lconst 0 rfl 39 rfl d_Tap_become_38 ?_
        refine r_last (w2 := TW X a (pu ν 0 (u1 (ν 0) 2 n)) (u2 σ 0 (upd (σ 0) 1 x)) (pu (pu τ 1 (zeroL (τ 1) 0 k)) 1 (vp_updL (zeroL (τ 1) 0 k) k 0))) 1 rfl k rfl (by omega) (by omega) rfl 40 rfl d_Tap_become_39 ?_
        refine r_iinc (ls2 := [some (.ref (a 0)), some (.int x), some (.int (nI n)), some (.int (nI (k + 1)))]) (nI (k + 1)) rfl (nI_1 _) 43 rfl d_Tap_become_40 (by decide) rfl rfl ?_
        refine r_goto 24 rfl d_Tap_become_43 ?_
        refine Runs.cast (ih2 (k + 1) (by omega) (by omega)) (rfl) rfl (by simp only [zeroL, Nat.zero_add]; rfl)
  refine Runs.cast (L24_1 _ 0 (Nat.zero_le _) (Nat.lt_succ_self _)) (rfl) rfl (rfl)
theorem c_Tap_get (X : Xn) (a : Nat → Nat) (ν : Nat → Nat → Nat) (σ : Nat → Nat → Int32) (τ : Nat → Nat → Int64)  (i : Nat) (hi : i < ν 0 2) (hz : ν 0 2 ≤ 60) : Does X 2 M_Tap_get [.ref (a 0), .int (nI i)] (TW X a ν σ τ) 0 0 (fun (vv : Option Value) (ww : va_W) => vv = some (.long ((τ 1) i)) ∧ ww = TW X a ν σ τ) := by
  generalize hQ : (fun (vv : Option Value) (ww : va_W) => vv = some (.long ((τ 1) i)) ∧ ww = TW X a ν σ τ) = Q
  refine Does.go rfl (Nat.le_of_ble_eq_true rfl) [some (.ref (a 0)), some (.int (nI i))] 0 rfl ?_
  refine r_aload_n rfl 1 rfl d_Tap_get_0 ?_
  refine r_iload_n rfl 2 rfl d_Tap_get_1 ?_
  refine r_callVA1 (st2 := [.int (bI (inR (nI i) (nI 0) (nI (ν 0 2) - 1)))]) (w2 := TW X a ν σ τ) lk_Tap_has ln_Tap_31 (c_Tap_has X a ν σ τ  (nI i) (hz)) (by first | decide | omega) rfl rfl (Nat.le_of_ble_eq_true rfl) (Nat.le_of_ble_eq_true rfl) (Nat.le_of_ble_eq_true rfl) 0 rfl rfl rfl rfl 5 rfl d_Tap_get_2 ?_
  refine r_if_eqB_f 8 rfl 17 rfl d_Tap_get_5 (has_n hi hz) ?_
  refine r_aload_n rfl 9 rfl d_Tap_get_8 ?_
  refine r_getf (v := .ref (a 1)) gf_Tap_9 0 rfl rfl 12 rfl d_Tap_get_9 ?_
  refine r_iload_n rfl 13 rfl d_Tap_get_12 ?_
  refine r_lald (f := τ 1) 1 rfl i rfl (by omega) (by omega) 14 rfl d_Tap_get_13 ?_
  refine r_goto 18 rfl d_Tap_get_14 ?_
  exact r_lret rfl (Nat.zero_le _) (Nat.zero_le _) d_Tap_get_18 (by rw [← hQ]; exact ⟨rfl, rfl⟩)
theorem c_Tap_set (X : Xn) (a : Nat → Nat) (ν : Nat → Nat → Nat) (σ : Nat → Nat → Int32) (τ : Nat → Nat → Int64)  (i : Nat) (v : Int64) (hi : i < ν 0 2) (hz : ν 0 2 ≤ 60) : Does X 2 M_Tap_set [.ref (a 0), .int (nI i), .long v] (TW X a ν σ τ) 0 0 (fun (vv : Option Value) (ww : va_W) => vv = none ∧ ww = TW X a ν σ (pu τ 1 (vp_updL (τ 1) i (keptC ((σ 0) 1) v)))) := by
  generalize hQ : (fun (vv : Option Value) (ww : va_W) => vv = none ∧ ww = TW X a ν σ (pu τ 1 (vp_updL (τ 1) i (keptC ((σ 0) 1) v)))) = Q
  refine Does.go rfl (Nat.le_of_ble_eq_true rfl) [some (.ref (a 0)), some (.int (nI i)), some (.long v), none] 0 rfl ?_
  refine r_aload_n rfl 1 rfl d_Tap_set_0 ?_
  refine r_iload_n rfl 2 rfl d_Tap_set_1 ?_
  refine r_callVA1 (st2 := [.int (bI (inR (nI i) (nI 0) (nI (ν 0 2) - 1)))]) (w2 := TW X a ν σ τ) lk_Tap_has ln_Tap_31 (c_Tap_has X a ν σ τ  (nI i) (hz)) (by first | decide | omega) rfl rfl (Nat.le_of_ble_eq_true rfl) (Nat.le_of_ble_eq_true rfl) (Nat.le_of_ble_eq_true rfl) 0 rfl rfl rfl rfl 5 rfl d_Tap_set_2 ?_
  refine r_if_eqB_f 8 rfl 19 rfl d_Tap_set_5 (has_n hi hz) ?_
  refine r_aload_n rfl 9 rfl d_Tap_set_8 ?_
  refine r_getf (v := .ref (a 1)) gf_Tap_9 0 rfl rfl 12 rfl d_Tap_set_9 ?_
  refine r_iload_n rfl 13 rfl d_Tap_set_12 ?_
  refine r_aload_n rfl 14 rfl d_Tap_set_13 ?_
  refine r_lload_n rfl 15 rfl d_Tap_set_14 ?_
  refine r_callVA1 (st2 := [.long (keptC ((σ 0) 1) v), .int (nI i), .ref (a 1)]) (w2 := TW X a ν σ τ) lk_Tap_cut ln_Tap_35 (c_Tap_cut X a ν σ τ  v ) (by first | decide | omega) rfl rfl (Nat.le_of_ble_eq_true rfl) (Nat.le_of_ble_eq_true rfl) (Nat.le_of_ble_eq_true rfl) 0 rfl rfl rfl rfl 18 rfl d_Tap_set_15 ?_
  refine r_last (w2 := TW X a ν σ (pu τ 1 (vp_updL (τ 1) i (keptC ((σ 0) 1) v)))) 1 rfl i rfl (by omega) (by omega) rfl 19 rfl d_Tap_set_18 ?_
  exact r_vret rfl (Nat.zero_le _) (Nat.zero_le _) d_Tap_set_19 (by rw [← hQ]; exact ⟨rfl, rfl⟩)
theorem c_Tap_hasRun (X : Xn) (a : Nat → Nat) (ν : Nat → Nat → Nat) (σ : Nat → Nat → Int32) (τ : Nat → Nat → Int64)  (i : Int32) (n : Int32) : Does X 1 M_Tap_hasRun [.ref (a 0), .int i, .int n] (TW X a ν σ τ) 0 0 (fun (vv : Option Value) (ww : va_W) => vv = some (.int (bI (runB (ν 0 2) i n))) ∧ ww = TW X a ν σ τ) := by
  generalize hQ : (fun (vv : Option Value) (ww : va_W) => vv = some (.int (bI (runB (ν 0 2) i n))) ∧ ww = TW X a ν σ τ) = Q
  refine Does.go rfl (Nat.le_of_ble_eq_true rfl) [some (.ref (a 0)), some (.int i), some (.int n)] 0 rfl ?_
  refine r_iload_n rfl 1 rfl d_Tap_hasRun_0 ?_
  refine r_if_lt 4 30 rfl rfl d_Tap_hasRun_1 (fun h1 => ?_) (fun h1 => ?_)
  · refine r_iconst (nI 0) rfl 31 rfl d_Tap_hasRun_30 ?_
    exact r_zret rfl (rfl) (Nat.zero_le _) (Nat.zero_le _) d_Tap_hasRun_31 (by rw [← hQ]; exact ⟨vB_f (by simp [runB, h1]), rfl⟩)
  · refine r_iload_n rfl 5 rfl d_Tap_hasRun_4 ?_
    refine r_if_lt 8 30 rfl rfl d_Tap_hasRun_5 (fun h5 => ?_) (fun h5 => ?_)
    · refine r_iconst (nI 0) rfl 31 rfl d_Tap_hasRun_30 ?_
      exact r_zret rfl (rfl) (Nat.zero_le _) (Nat.zero_le _) d_Tap_hasRun_31 (by rw [← hQ]; exact ⟨vB_f (by simp [runB, h1, h5]), rfl⟩)
    · refine r_iload_n rfl 9 rfl d_Tap_hasRun_8 ?_
      refine r_aload_n rfl 10 rfl d_Tap_hasRun_9 ?_
      refine r_getf (v := .int (nI (ν 0 2))) gf_Tap_28 0 rfl rfl 13 rfl d_Tap_hasRun_10 ?_
      refine r_icmp_gt 16 30 rfl rfl d_Tap_hasRun_13 (fun h13 => ?_) (fun h13 => ?_)
      · refine r_iconst (nI 0) rfl 31 rfl d_Tap_hasRun_30 ?_
        exact r_zret rfl (rfl) (Nat.zero_le _) (Nat.zero_le _) d_Tap_hasRun_31 (by rw [← hQ]; exact ⟨vB_f (by simp [runB, h1, h5, Int32.not_le.mpr h13]), rfl⟩)
      · refine r_iload_n rfl 17 rfl d_Tap_hasRun_16 ?_
        refine r_aload_n rfl 18 rfl d_Tap_hasRun_17 ?_
        refine r_getf (v := .int (nI (ν 0 2))) gf_Tap_28 0 rfl rfl 21 rfl d_Tap_hasRun_18 ?_
        refine r_iload_n rfl 22 rfl d_Tap_hasRun_21 ?_
        refine r_isub 23 rfl d_Tap_hasRun_22 ?_
        refine r_icmp_gt 26 30 rfl rfl d_Tap_hasRun_23 (fun h23 => ?_) (fun h23 => ?_)
        · refine r_iconst (nI 0) rfl 31 rfl d_Tap_hasRun_30 ?_
          exact r_zret rfl (rfl) (Nat.zero_le _) (Nat.zero_le _) d_Tap_hasRun_31 (by rw [← hQ]; exact ⟨vB_f (by simp [runB, h1, h5, Int32.not_lt.mp h13, Int32.not_le.mpr h23]), rfl⟩)
        · refine r_iconst (nI 1) rfl 27 rfl d_Tap_hasRun_26 ?_
          refine r_goto 31 rfl d_Tap_hasRun_27 ?_
          exact r_zret rfl (rfl) (Nat.zero_le _) (Nat.zero_le _) d_Tap_hasRun_31 (by rw [← hQ]; exact ⟨vB_t (by simp [runB, h1, h5, Int32.not_lt.mp h13, Int32.not_lt.mp h23]), rfl⟩)
