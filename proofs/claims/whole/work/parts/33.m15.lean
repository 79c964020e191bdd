def M_Mod_span : XM := (⟨"HandshakeBindsModel", "span", "(II)I"⟩, prog_11_method_34_code, 6, (some .int))
theorem d_Mod_span_0 : decode M_Mod_span.2.1 0 = .ok (.iconst 0, 1) := by decide +kernel
theorem d_Mod_span_1 : decode M_Mod_span.2.1 1 = .ok (.istore_n 3, 1) := by decide +kernel
theorem d_Mod_span_2 : decode M_Mod_span.2.1 2 = .ok (.iload_n 3, 1) := by decide +kernel
theorem d_Mod_span_3 : decode M_Mod_span.2.1 3 = .ok (.sipush 3000, 3) := by decide +kernel
theorem d_Mod_span_6 : decode M_Mod_span.2.1 6 = .ok (.if_icmp .ge 16, 3) := by decide +kernel
theorem d_Mod_span_22 : decode M_Mod_span.2.1 22 = .ok (.iconst 0, 1) := by decide +kernel
theorem d_Mod_span_23 : decode M_Mod_span.2.1 23 = .ok (.istore_n 3, 1) := by decide +kernel
theorem d_Mod_span_24 : decode M_Mod_span.2.1 24 = .ok (.iconst 0, 1) := by decide +kernel
theorem d_Mod_span_25 : decode M_Mod_span.2.1 25 = .ok (.istore 4, 2) := by decide +kernel
theorem d_Mod_span_27 : decode M_Mod_span.2.1 27 = .ok (.iload 4, 2) := by decide +kernel
theorem d_Mod_span_29 : decode M_Mod_span.2.1 29 = .ok (.bipush 100, 2) := by decide +kernel
theorem d_Mod_span_31 : decode M_Mod_span.2.1 31 = .ok (.if_icmp .ge 52, 3) := by decide +kernel
theorem d_Mod_span_83 : decode M_Mod_span.2.1 83 = .ok (.iload_n 3, 1) := by decide +kernel
theorem d_Mod_span_84 : decode M_Mod_span.2.1 84 = .ok (.ireturn, 1) := by decide +kernel
theorem d_Mod_span_34 : decode M_Mod_span.2.1 34 = .ok (.aload_n 0, 1) := by decide +kernel
theorem d_Mod_span_35 : decode M_Mod_span.2.1 35 = .ok (.iload_n 1, 1) := by decide +kernel
theorem d_Mod_span_36 : decode M_Mod_span.2.1 36 = .ok (.iload_n 2, 1) := by decide +kernel
theorem d_Mod_span_37 : decode M_Mod_span.2.1 37 = .ok (.iload 4, 2) := by decide +kernel
theorem d_Mod_span_39 : decode M_Mod_span.2.1 39 = .ok (.aload_n 0, 1) := by decide +kernel
theorem d_Mod_span_40 : decode M_Mod_span.2.1 40 = .ok (.getfield 240, 3) := by decide +kernel
theorem d_Mod_span_43 : decode M_Mod_span.2.1 43 = .ok (.invokevirtual 243, 3) := by decide +kernel
theorem d_Mod_span_46 : decode M_Mod_span.2.1 46 = .ok (.istore 5, 2) := by decide +kernel
theorem d_Mod_span_48 : decode M_Mod_span.2.1 48 = .ok (.iload 5, 2) := by decide +kernel
theorem d_Mod_span_50 : decode M_Mod_span.2.1 50 = .ok (.ifCond .eq 27, 3) := by decide +kernel
theorem d_Mod_span_77 : decode M_Mod_span.2.1 77 = .ok (.iinc 4 1, 3) := by decide +kernel
theorem d_Mod_span_80 : decode M_Mod_span.2.1 80 = .ok (.goto (-53), 3) := by decide +kernel
theorem d_Mod_span_53 : decode M_Mod_span.2.1 53 = .ok (.aload_n 0, 1) := by decide +kernel
theorem d_Mod_span_54 : decode M_Mod_span.2.1 54 = .ok (.getfield 94, 3) := by decide +kernel
theorem gf_Mod_94 : GF "HandshakeBindsModel" 94 9 42 := ⟨_, _, _, rfl, by decide, i_Mod, inTB 892 (by decide +kernel) rfl⟩
theorem d_Mod_span_57 : decode M_Mod_span.2.1 57 = .ok (.iload 5, 2) := by decide +kernel
theorem d_Mod_span_59 : decode M_Mod_span.2.1 59 = .ok (.baload, 1) := by decide +kernel
theorem d_Mod_span_60 : decode M_Mod_span.2.1 60 = .ok (.ifCond .eq 6, 3) := by decide +kernel
theorem d_Mod_span_66 : decode M_Mod_span.2.1 66 = .ok (.aload_n 0, 1) := by decide +kernel
theorem d_Mod_span_67 : decode M_Mod_span.2.1 67 = .ok (.getfield 94, 3) := by decide +kernel
theorem d_Mod_span_70 : decode M_Mod_span.2.1 70 = .ok (.iload 5, 2) := by decide +kernel
theorem d_Mod_span_72 : decode M_Mod_span.2.1 72 = .ok (.iconst 1, 1) := by decide +kernel
theorem d_Mod_span_73 : decode M_Mod_span.2.1 73 = .ok (.bastore, 1) := by decide +kernel
theorem d_Mod_span_74 : decode M_Mod_span.2.1 74 = .ok (.iinc 3 1, 3) := by decide +kernel
theorem d_Mod_span_63 : decode M_Mod_span.2.1 63 = .ok (.goto 14, 3) := by decide +kernel
theorem d_Mod_span_9 : decode M_Mod_span.2.1 9 = .ok (.aload_n 0, 1) := by decide +kernel
theorem d_Mod_span_10 : decode M_Mod_span.2.1 10 = .ok (.getfield 94, 3) := by decide +kernel
theorem d_Mod_span_13 : decode M_Mod_span.2.1 13 = .ok (.iload_n 3, 1) := by decide +kernel
theorem d_Mod_span_14 : decode M_Mod_span.2.1 14 = .ok (.iconst 0, 1) := by decide +kernel
theorem d_Mod_span_15 : decode M_Mod_span.2.1 15 = .ok (.bastore, 1) := by decide +kernel
theorem d_Mod_span_16 : decode M_Mod_span.2.1 16 = .ok (.iinc 3 1, 3) := by decide +kernel
theorem d_Mod_span_19 : decode M_Mod_span.2.1 19 = .ok (.goto (-17), 3) := by decide +kernel
def M_Mod_between : XM := (⟨"HandshakeBindsModel", "between", "(III)I"⟩, prog_11_method_35_code, 4, (some .int))
theorem d_Mod_between_0 : decode M_Mod_between.2.1 0 = .ok (.aload_n 0, 1) := by decide +kernel
theorem d_Mod_between_1 : decode M_Mod_between.2.1 1 = .ok (.iload_n 1, 1) := by decide +kernel
theorem d_Mod_between_2 : decode M_Mod_between.2.1 2 = .ok (.iload_n 2, 1) := by decide +kernel
theorem d_Mod_between_3 : decode M_Mod_between.2.1 3 = .ok (.invokevirtual 140, 3) := by decide +kernel
theorem d_Mod_between_6 : decode M_Mod_between.2.1 6 = .ok (.ifCond .eq 12, 3) := by decide +kernel
theorem d_Mod_between_18 : decode M_Mod_between.2.1 18 = .ok (.iconst (-1), 1) := by decide +kernel
theorem d_Mod_between_19 : decode M_Mod_between.2.1 19 = .ok (.ireturn, 1) := by decide +kernel
theorem d_Mod_between_9 : decode M_Mod_between.2.1 9 = .ok (.iload_n 3, 1) := by decide +kernel
theorem d_Mod_between_10 : decode M_Mod_between.2.1 10 = .ok (.iconst 0, 1) := by decide +kernel
theorem d_Mod_between_11 : decode M_Mod_between.2.1 11 = .ok (.iconst 1, 1) := by decide +kernel
theorem d_Mod_between_12 : decode M_Mod_between.2.1 12 = .ok (.invokestatic 114, 3) := by decide +kernel
theorem d_Mod_between_15 : decode M_Mod_between.2.1 15 = .ok (.ifCond .ne 5, 3) := by decide +kernel
theorem d_Mod_between_20 : decode M_Mod_between.2.1 20 = .ok (.iload_n 1, 1) := by decide +kernel
theorem d_Mod_between_21 : decode M_Mod_between.2.1 21 = .ok (.iload_n 2, 1) := by decide +kernel
theorem d_Mod_between_22 : decode M_Mod_between.2.1 22 = .ok (.if_icmp .ne 6, 3) := by decide +kernel
theorem d_Mod_between_28 : decode M_Mod_between.2.1 28 = .ok (.iload_n 3, 1) := by decide +kernel
theorem d_Mod_between_29 : decode M_Mod_between.2.1 29 = .ok (.ifCond .ne 17, 3) := by decide +kernel
theorem d_Mod_between_46 : decode M_Mod_between.2.1 46 = .ok (.aload_n 0, 1) := by decide +kernel
theorem d_Mod_between_47 : decode M_Mod_between.2.1 47 = .ok (.iload_n 1, 1) := by decide +kernel
theorem d_Mod_between_48 : decode M_Mod_between.2.1 48 = .ok (.iload_n 2, 1) := by decide +kernel
theorem d_Mod_between_49 : decode M_Mod_between.2.1 49 = .ok (.invokevirtual 251, 3) := by decide +kernel
theorem ln_Mod_251 : Cond.methodLink "HandshakeBindsModel" 251 M_Mod_span.1 ∈ TB := inTB 1192 (by decide +kernel) rfl
theorem lk_Mod_span : LVt M_Mod_span 2 := ⟨⟨inTB 72 (by decide +kernel) rfl, inTB 1195 (by decide +kernel) rfl, ⟨by decide, by decide, by decide +kernel⟩, by decide⟩, inTB 1194 (by decide +kernel) rfl, inTB 43 (by decide +kernel) rfl⟩
theorem d_Mod_between_52 : decode M_Mod_between.2.1 52 = .ok (.ireturn, 1) := by decide +kernel
theorem d_Mod_between_32 : decode M_Mod_between.2.1 32 = .ok (.aload_n 0, 1) := by decide +kernel
theorem d_Mod_between_33 : decode M_Mod_between.2.1 33 = .ok (.getfield 24, 3) := by decide +kernel
theorem d_Mod_between_36 : decode M_Mod_between.2.1 36 = .ok (.bipush 6, 2) := by decide +kernel
theorem d_Mod_between_38 : decode M_Mod_between.2.1 38 = .ok (.iload_n 1, 1) := by decide +kernel
theorem d_Mod_between_39 : decode M_Mod_between.2.1 39 = .ok (.imul, 1) := by decide +kernel
theorem d_Mod_between_40 : decode M_Mod_between.2.1 40 = .ok (.iload_n 2, 1) := by decide +kernel
theorem d_Mod_between_41 : decode M_Mod_between.2.1 41 = .ok (.iadd, 1) := by decide +kernel
theorem d_Mod_between_42 : decode M_Mod_between.2.1 42 = .ok (.iaload, 1) := by decide +kernel
theorem d_Mod_between_43 : decode M_Mod_between.2.1 43 = .ok (.goto 9, 3) := by decide +kernel
theorem d_Mod_between_25 : decode M_Mod_between.2.1 25 = .ok (.bipush (-2), 2) := by decide +kernel
theorem d_Mod_between_27 : decode M_Mod_between.2.1 27 = .ok (.ireturn, 1) := by decide +kernel
def M_Mod_can : XM := (⟨"HandshakeBindsModel", "can", "(II)I"⟩, prog_11_method_53_code, 7, (some .int))
theorem d_Mod_can_0 : decode M_Mod_can.2.1 0 = .ok (.aload_n 0, 1) := by decide +kernel
theorem d_Mod_can_1 : decode M_Mod_can.2.1 1 = .ok (.iload_n 1, 1) := by decide +kernel
theorem d_Mod_can_2 : decode M_Mod_can.2.1 2 = .ok (.invokevirtual 118, 3) := by decide +kernel
theorem d_Mod_can_5 : decode M_Mod_can.2.1 5 = .ok (.ifCond .eq 12, 3) := by decide +kernel
theorem d_Mod_can_17 : decode M_Mod_can.2.1 17 = .ok (.iconst (-1), 1) := by decide +kernel
theorem d_Mod_can_18 : decode M_Mod_can.2.1 18 = .ok (.ireturn, 1) := by decide +kernel
theorem d_Mod_can_8 : decode M_Mod_can.2.1 8 = .ok (.iload_n 2, 1) := by decide +kernel
theorem d_Mod_can_9 : decode M_Mod_can.2.1 9 = .ok (.iconst 0, 1) := by decide +kernel
theorem d_Mod_can_10 : decode M_Mod_can.2.1 10 = .ok (.iconst 1, 1) := by decide +kernel
theorem d_Mod_can_11 : decode M_Mod_can.2.1 11 = .ok (.invokestatic 114, 3) := by decide +kernel
theorem d_Mod_can_14 : decode M_Mod_can.2.1 14 = .ok (.ifCond .ne 5, 3) := by decide +kernel
theorem d_Mod_can_19 : decode M_Mod_can.2.1 19 = .ok (.aload_n 0, 1) := by decide +kernel
theorem d_Mod_can_20 : decode M_Mod_can.2.1 20 = .ok (.getfield 15, 3) := by decide +kernel
theorem d_Mod_can_23 : decode M_Mod_can.2.1 23 = .ok (.iload_n 1, 1) := by decide +kernel
theorem d_Mod_can_24 : decode M_Mod_can.2.1 24 = .ok (.iaload, 1) := by decide +kernel
theorem d_Mod_can_25 : decode M_Mod_can.2.1 25 = .ok (.istore_n 3, 1) := by decide +kernel
theorem d_Mod_can_26 : decode M_Mod_can.2.1 26 = .ok (.iconst 0, 1) := by decide +kernel
theorem d_Mod_can_27 : decode M_Mod_can.2.1 27 = .ok (.istore 4, 2) := by decide +kernel
theorem d_Mod_can_29 : decode M_Mod_can.2.1 29 = .ok (.bipush (-5), 2) := by decide +kernel
theorem d_Mod_can_31 : decode M_Mod_can.2.1 31 = .ok (.istore 5, 2) := by decide +kernel
theorem d_Mod_can_33 : decode M_Mod_can.2.1 33 = .ok (.bipush 9, 2) := by decide +kernel
theorem d_Mod_can_35 : decode M_Mod_can.2.1 35 = .ok (.istore 6, 2) := by decide +kernel
theorem d_Mod_can_37 : decode M_Mod_can.2.1 37 = .ok (.iload 6, 2) := by decide +kernel
theorem d_Mod_can_39 : decode M_Mod_can.2.1 39 = .ok (.ifCond .lt 35, 3) := by decide +kernel
theorem d_Mod_can_74 : decode M_Mod_can.2.1 74 = .ok (.aload_n 0, 1) := by decide +kernel
theorem d_Mod_can_75 : decode M_Mod_can.2.1 75 = .ok (.getfield 15, 3) := by decide +kernel
theorem d_Mod_can_78 : decode M_Mod_can.2.1 78 = .ok (.iload_n 1, 1) := by decide +kernel
theorem d_Mod_can_79 : decode M_Mod_can.2.1 79 = .ok (.iload_n 3, 1) := by decide +kernel
theorem d_Mod_can_80 : decode M_Mod_can.2.1 80 = .ok (.iastore, 1) := by decide +kernel
theorem d_Mod_can_81 : decode M_Mod_can.2.1 81 = .ok (.iload_n 2, 1) := by decide +kernel
theorem d_Mod_can_82 : decode M_Mod_can.2.1 82 = .ok (.ifCond .ne 8, 3) := by decide +kernel
theorem d_Mod_can_90 : decode M_Mod_can.2.1 90 = .ok (.iload 5, 2) := by decide +kernel
theorem d_Mod_can_92 : decode M_Mod_can.2.1 92 = .ok (.ireturn, 1) := by decide +kernel
theorem d_Mod_can_85 : decode M_Mod_can.2.1 85 = .ok (.iload 4, 2) := by decide +kernel
theorem d_Mod_can_87 : decode M_Mod_can.2.1 87 = .ok (.goto 5, 3) := by decide +kernel
theorem d_Mod_can_42 : decode M_Mod_can.2.1 42 = .ok (.aload_n 0, 1) := by decide +kernel
theorem d_Mod_can_43 : decode M_Mod_can.2.1 43 = .ok (.getfield 15, 3) := by decide +kernel
theorem d_Mod_can_46 : decode M_Mod_can.2.1 46 = .ok (.iload_n 1, 1) := by decide +kernel
theorem d_Mod_can_47 : decode M_Mod_can.2.1 47 = .ok (.iload 6, 2) := by decide +kernel
theorem d_Mod_can_49 : decode M_Mod_can.2.1 49 = .ok (.iastore, 1) := by decide +kernel
theorem d_Mod_can_50 : decode M_Mod_can.2.1 50 = .ok (.aload_n 0, 1) := by decide +kernel
theorem d_Mod_can_51 : decode M_Mod_can.2.1 51 = .ok (.iload_n 1, 1) := by decide +kernel
theorem d_Mod_can_52 : decode M_Mod_can.2.1 52 = .ok (.invokevirtual 303, 3) := by decide +kernel
theorem ln_Mod_303 : Cond.methodLink "HandshakeBindsModel" 303 M_Mod_isAllSo.1 ∈ TB := inTB 1273 (by decide +kernel) rfl
theorem lk_Mod_isAllSo : LVt M_Mod_isAllSo 1 := ⟨⟨inTB 72 (by decide +kernel) rfl, inTB 1276 (by decide +kernel) rfl, ⟨by decide, by decide, by decide +kernel⟩, by decide⟩, inTB 1275 (by decide +kernel) rfl, inTB 55 (by decide +kernel) rfl⟩
theorem d_Mod_can_55 : decode M_Mod_can.2.1 55 = .ok (.ifCond .ne 6, 3) := by decide +kernel
theorem d_Mod_can_61 : decode M_Mod_can.2.1 61 = .ok (.iinc 4 1, 3) := by decide +kernel
theorem d_Mod_can_64 : decode M_Mod_can.2.1 64 = .ok (.iload 6, 2) := by decide +kernel
theorem d_Mod_can_66 : decode M_Mod_can.2.1 66 = .ok (.istore 5, 2) := by decide +kernel
theorem d_Mod_can_68 : decode M_Mod_can.2.1 68 = .ok (.iinc 6 (-1), 3) := by decide +kernel
theorem d_Mod_can_71 : decode M_Mod_can.2.1 71 = .ok (.goto (-34), 3) := by decide +kernel
theorem d_Mod_can_58 : decode M_Mod_can.2.1 58 = .ok (.goto 10, 3) := by decide +kernel
def M_Mod_told : XM := (⟨"HandshakeBindsModel", "told", "(I)I"⟩, prog_11_method_47_code, 2, (some .int))
theorem d_Mod_told_0 : decode M_Mod_told.2.1 0 = .ok (.iload_n 1, 1) := by decide +kernel
theorem d_Mod_told_1 : decode M_Mod_told.2.1 1 = .ok (.tableswitch 88 0 7 #[47, 52, 57, 63, 68, 73, 78, 83], 47) := by decide +kernel
theorem d_Mod_told_48 : decode M_Mod_told.2.1 48 = .ok (.aload_n 0, 1) := by decide +kernel
theorem d_Mod_told_49 : decode M_Mod_told.2.1 49 = .ok (.getfield 240, 3) := by decide +kernel
theorem d_Mod_told_52 : decode M_Mod_told.2.1 52 = .ok (.ireturn, 1) := by decide +kernel
theorem d_Mod_told_53 : decode M_Mod_told.2.1 53 = .ok (.aload_n 0, 1) := by decide +kernel
theorem d_Mod_told_54 : decode M_Mod_told.2.1 54 = .ok (.invokevirtual 234, 3) := by decide +kernel
theorem d_Mod_told_57 : decode M_Mod_told.2.1 57 = .ok (.ireturn, 1) := by decide +kernel
theorem d_Mod_told_58 : decode M_Mod_told.2.1 58 = .ok (.aload_n 0, 1) := by decide +kernel
theorem d_Mod_told_59 : decode M_Mod_told.2.1 59 = .ok (.iconst 0, 1) := by decide +kernel
theorem d_Mod_told_60 : decode M_Mod_told.2.1 60 = .ok (.invokevirtual 134, 3) := by decide +kernel
theorem d_Mod_told_63 : decode M_Mod_told.2.1 63 = .ok (.ireturn, 1) := by decide +kernel
theorem d_Mod_told_64 : decode M_Mod_told.2.1 64 = .ok (.aload_n 0, 1) := by decide +kernel
theorem d_Mod_told_65 : decode M_Mod_told.2.1 65 = .ok (.invokevirtual 282, 3) := by decide +kernel
theorem ln_Mod_282 : Cond.methodLink "HandshakeBindsModel" 282 M_Mod_rescue.1 ∈ TB := inTB 1204 (by decide +kernel) rfl
theorem lk_Mod_rescue : LVt M_Mod_rescue 0 := ⟨⟨inTB 72 (by decide +kernel) rfl, inTB 1207 (by decide +kernel) rfl, ⟨by decide, by decide, by decide +kernel⟩, by decide⟩, inTB 1206 (by decide +kernel) rfl, inTB 44 (by decide +kernel) rfl⟩
theorem d_Mod_told_68 : decode M_Mod_told.2.1 68 = .ok (.ireturn, 1) := by decide +kernel
theorem d_Mod_told_69 : decode M_Mod_told.2.1 69 = .ok (.aload_n 0, 1) := by decide +kernel
theorem d_Mod_told_70 : decode M_Mod_told.2.1 70 = .ok (.invokevirtual 285, 3) := by decide +kernel
theorem ln_Mod_285 : Cond.methodLink "HandshakeBindsModel" 285 M_Mod_payments.1 ∈ TB := inTB 1227 (by decide +kernel) rfl
theorem lk_Mod_payments : LVt M_Mod_payments 0 := ⟨⟨inTB 72 (by decide +kernel) rfl, inTB 1230 (by decide +kernel) rfl, ⟨by decide, by decide, by decide +kernel⟩, by decide⟩, inTB 1229 (by decide +kernel) rfl, inTB 48 (by decide +kernel) rfl⟩
theorem d_Mod_told_73 : decode M_Mod_told.2.1 73 = .ok (.ireturn, 1) := by decide +kernel
theorem d_Mod_told_74 : decode M_Mod_told.2.1 74 = .ok (.aload_n 0, 1) := by decide +kernel
theorem d_Mod_told_75 : decode M_Mod_told.2.1 75 = .ok (.invokevirtual 288, 3) := by decide +kernel
theorem ln_Mod_288 : Cond.methodLink "HandshakeBindsModel" 288 M_Mod_ring.1 ∈ TB := inTB 1236 (by decide +kernel) rfl
theorem lk_Mod_ring : LVt M_Mod_ring 0 := ⟨⟨inTB 72 (by decide +kernel) rfl, inTB 1239 (by decide +kernel) rfl, ⟨by decide, by decide, by decide +kernel⟩, by decide⟩, inTB 1238 (by decide +kernel) rfl, inTB 50 (by decide +kernel) rfl⟩
theorem d_Mod_told_78 : decode M_Mod_told.2.1 78 = .ok (.ireturn, 1) := by decide +kernel
theorem d_Mod_told_79 : decode M_Mod_told.2.1 79 = .ok (.aload_n 0, 1) := by decide +kernel
theorem d_Mod_told_80 : decode M_Mod_told.2.1 80 = .ok (.invokevirtual 291, 3) := by decide +kernel
theorem ln_Mod_291 : Cond.methodLink "HandshakeBindsModel" 291 M_Mod_offset.1 ∈ TB := inTB 1244 (by decide +kernel) rfl
theorem lk_Mod_offset : LVt M_Mod_offset 0 := ⟨⟨inTB 72 (by decide +kernel) rfl, inTB 1247 (by decide +kernel) rfl, ⟨by decide, by decide, by decide +kernel⟩, by decide⟩, inTB 1246 (by decide +kernel) rfl, inTB 52 (by decide +kernel) rfl⟩
theorem d_Mod_told_83 : decode M_Mod_told.2.1 83 = .ok (.ireturn, 1) := by decide +kernel
theorem d_Mod_told_84 : decode M_Mod_told.2.1 84 = .ok (.aload_n 0, 1) := by decide +kernel
theorem d_Mod_told_85 : decode M_Mod_told.2.1 85 = .ok (.invokevirtual 294, 3) := by decide +kernel
theorem d_Mod_told_88 : decode M_Mod_told.2.1 88 = .ok (.ireturn, 1) := by decide +kernel
theorem d_Mod_told_89 : decode M_Mod_told.2.1 89 = .ok (.iconst (-1), 1) := by decide +kernel
theorem d_Mod_told_90 : decode M_Mod_told.2.1 90 = .ok (.ireturn, 1) := by decide +kernel
theorem c_Mod_span (X : Xn) (a ν : Nat → Nat) (σ : Nat → Nat → Int32) (τ : Nat → Int64) (hd9 : ν 6 ≤ 9999) (x : EX) (hx : heldX σ x) (hvv : ∀ i, i < 6 → ∃ k : Nat, k ≤ 9 ∧ σ 2 i = nI k) (hrw : ∀ i, i < 24 → ∃ k : Nat, k ≤ 9 ∧ σ 4 i = nI k) (p q : Nat) (hp : p < 6) (hq : q < 6) : Does X 6 M_Mod_span [.ref (a 0), .int (nI p), .int (nI q)] (MW X a ν σ τ) 0 0 (fun (vv : Option Value) (ww : va_W) => ∃ g t : Nat → Int32, vv = some (.int (nI (spN (fun z => rdV x p q (σ 1 p) (σ 2 p) (σ 4) z (ν 6)) 100))) ∧ ww = MW X a ν (u2 (u2 σ 42 g) 22 t) τ) := by
  generalize hQ : (fun (vv : Option Value) (ww : va_W) => ∃ g t : Nat → Int32, vv = some (.int (nI (spN (fun z => rdV x p q (σ 1 p) (σ 2 p) (σ 4) z (ν 6)) 100))) ∧ ww = MW X a ν (u2 (u2 σ 42 g) 22 t) τ) = Q
  refine Does.go rfl (Nat.le_of_ble_eq_true rfl) [some (.ref (a 0)), some (.int (nI p)), some (.int (nI q)), none, none, none] 3 rfl ?_
  refine r_iconst (nI 0) rfl 1 rfl d_Mod_span_0 ?_
  refine r_istore_n (ls2 := [some (.ref (a 0)), some (.int (nI p)), some (.int (nI q)), some (.int (nI 0)), none, none]) 2 rfl d_Mod_span_1 (by decide) rfl rfl ?_
  have L2_1 : ∀ (f : Nat) (i : Nat) (g : Nat → Int32), (i ≤ 3000) → (∀ j, j < i → g j = nI 0) → 3000 - i < f → Runs X 6 M_Mod_span 0 0 Q 2 [some (.ref (a 0)), some (.int (nI p)), some (.int (nI q)), some (.int (nI i)), none, none] [] 0 0 (MW X a ν (u2 σ 42 g) τ) := by
    intro f
    induction f with
    | zero => intro i g hi h0 hmu; exact absurd hmu (Nat.not_lt_zero _)
    | succ f ih2 =>
      intro i g hi h0 hmu
      refine r_iload_n rfl 3 rfl d_Mod_span_2 ?_
      refine r_sipush (nI 3000) rfl 6 rfl d_Mod_span_3 ?_
      refine r_icmp_geN i 3000 (by omega) (by omega) 9 22 rfl rfl d_Mod_span_6 (fun h6 => ?_) (fun h6 => ?_)
      · refine r_iconst (nI 0) rfl 23 rfl d_Mod_span_22 ?_
        refine r_istore_n (ls2 := [some (.ref (a 0)), some (.int (nI p)), some (.int (nI q)), some (.int (nI 0)), none, none]) 24 rfl d_Mod_span_23 (by decide) rfl rfl ?_
        refine r_iconst (nI 0) rfl 25 rfl d_Mod_span_24 ?_
        refine r_istore (ls2 := [some (.ref (a 0)), some (.int (nI p)), some (.int (nI q)), some (.int (nI 0)), some (.int (nI 0)), none]) 27 rfl d_Mod_span_25 (by decide) rfl rfl ?_
        have L27_3 : ∀ (f : Nat) (s : Nat) (g : Nat → Int32) (t : Nat → Int32), (s ≤ 100) → (hold42 g (fun z => rdV x p q (σ 1 p) (σ 2 p) (σ 4) z (ν 6)) s) → 100 - s < f → Runs X 6 M_Mod_span 0 0 Q 27 [some (.ref (a 0)), some (.int (nI p)), some (.int (nI q)), some (.int (nI (spN (fun z => rdV x p q (σ 1 p) (σ 2 p) (σ 4) z (ν 6)) s))), some (.int (nI s)), none] [] 0 0 (MW X a ν (u2 (u2 σ 42 g) 22 t) τ) := by
          intro f
          induction f with
          | zero => intro s g t hs hg hmu; exact absurd hmu (Nat.not_lt_zero _)
          | succ f ih4 =>
            intro s g t hs hg hmu
            refine r_iload rfl 29 rfl d_Mod_span_27 ?_
            refine r_bipush (nI 100) rfl 31 rfl d_Mod_span_29 ?_
            refine r_icmp_geN s 100 (by omega) (by omega) 34 83 rfl rfl d_Mod_span_31 (fun h31 => ?_) (fun h31 => ?_)
            · refine r_iload_n rfl 84 rfl d_Mod_span_83 ?_
              exact r_iret rfl (Nat.zero_le _) (Nat.zero_le _) d_Mod_span_84 (by rw [← hQ]; exact ⟨g, t, by rw [show s = 100 by omega], rfl⟩)
            · refine r_aload_n rfl 35 rfl d_Mod_span_34 ?_
              refine r_iload_n rfl 36 rfl d_Mod_span_35 ?_
              refine r_iload_n rfl 37 rfl d_Mod_span_36 ?_
              refine r_iload rfl 39 rfl d_Mod_span_37 ?_
              refine r_aload_n rfl 40 rfl d_Mod_span_39 ?_
              refine r_getf (v := .int (nI (ν 6))) gf_Mod_240 0 rfl rfl 43 rfl d_Mod_span_40 ?_
              refine r_callVAQ (st2 := []) (w2 := []) lk_Mod_readBy ln_Mod_243 (c_Mod_readBy X a ν (u2 (u2 σ 42 g) 22 t) τ p q s (ν 6) (by omega) (by omega) (by omega) (by omega) x hx) (by first | decide | omega) rfl rfl (Nat.le_of_ble_eq_true rfl) (Nat.le_of_ble_eq_true rfl) (Nat.le_of_ble_eq_true rfl) 0 rfl rfl 46 rfl d_Mod_span_43 (fun vv ww hq2 => ?_)
              obtain ⟨t2, rfl, rfl⟩ := hq2
              refine ⟨rfl, ?_⟩
              show Runs X 6 M_Mod_span 0 0 Q 46 [some (.ref (a 0)), some (.int (nI p)), some (.int (nI q)), some (.int (nI (spN (fun z => rdV x p q (σ 1 p) (σ 2 p) (σ 4) z (ν 6)) s))), some (.int (nI s)), none] [.int (rdV x p q (σ 1 p) (σ 2 p) (σ 4) s (ν 6))] 0 0 (MW X a ν (u2 (u2 σ 42 g) 22 t2) τ)
              refine r_istore (ls2 := [some (.ref (a 0)), some (.int (nI p)), some (.int (nI q)), some (.int (nI (spN (fun z => rdV x p q (σ 1 p) (σ 2 p) (σ 4) z (ν 6)) s))), some (.int (nI s)), some (.int (rdV x p q (σ 1 p) (σ 2 p) (σ 4) s (ν 6)))]) 48 rfl d_Mod_span_46 (by decide) rfl rfl ?_
              refine r_iload rfl 50 rfl d_Mod_span_48 ?_
              refine r_if_eq 53 77 rfl rfl d_Mod_span_50 (fun h50 => ?_) (fun h50 => ?_)
              · refine r_iinc (ls2 := [some (.ref (a 0)), some (.int (nI p)), some (.int (nI q)), some (.int (nI (spN (fun z => rdV x p q (σ 1 p) (σ 2 p) (σ 4) z (ν 6)) s))), some (.int (nI (s + 1))), some (.int (rdV x p q (σ 1 p) (σ 2 p) (σ 4) s (ν 6)))]) (nI (s + 1)) rfl (nI_1 _) 80 rfl d_Mod_span_77 (by decide) rfl rfl ?_
                refine r_goto 27 rfl d_Mod_span_80 ?_
                refine r_forget (ls2 := [some (.ref (a 0)), some (.int (nI p)), some (.int (nI q)), some (.int (nI (spN (fun z => rdV x p q (σ 1 p) (σ 2 p) (σ 4) z (ν 6)) s))), some (.int (nI (s + 1))), none]) 5 rfl ?_
                refine Runs.cast (ih4 (s + 1) g t2 (by omega) ((h42_0 hg h50).1) (by omega)) (by rw [(h42_0 hg h50).2]; try rfl) rfl (rfl)
              · refine r_aload_n rfl 54 rfl d_Mod_span_53 ?_
                refine r_getf (v := .ref (a 42)) gf_Mod_94 0 rfl rfl 57 rfl d_Mod_span_54 ?_
                refine r_iload rfl 59 rfl d_Mod_span_57 ?_
                obtain ⟨vv9, hv9, ev9⟩ := hvv p hp
                obtain ⟨r, hr3, er⟩ := rd_nat hx.1 (p := p) (q := q) (kd := σ 1 p) (v := σ 2 p) (rw := σ 4) (s := s) (d := ν 6) (by omega) ev9 hv9 (hrw _ (by omega))
                have hr0 : 0 < r := Nat.pos_of_ne_zero (fun z => h50 (by rw [er, z]; rfl))
                refine r_topi (nI r) er ?_
                refine r_zald (f := g) 28 rfl r rfl (by omega) (by omega) 60 rfl d_Mod_span_59 ?_
                refine r_topi (bI (seenB (fun z => rdV x p q (σ 1 p) (σ 2 p) (σ 4) z (ν 6)) (nI r) s)) (hg r hr0 hr3) ?_
                refine r_if_eqB 63 66 rfl rfl d_Mod_span_60 (fun h60 => ?_) (fun h60 => ?_)
                · refine r_aload_n rfl 67 rfl d_Mod_span_66 ?_
                  refine r_getf (v := .ref (a 42)) gf_Mod_94 0 rfl rfl 70 rfl d_Mod_span_67 ?_
                  refine r_iload rfl 72 rfl d_Mod_span_70 ?_
                  refine r_topi (nI r) er ?_
                  refine r_iconst (nI 1) rfl 73 rfl d_Mod_span_72 ?_
                  refine r_zast (w2 := MW X a ν (u2 (u2 (u2 σ 42 g) 22 t2) 42 (upd g r (nI 1))) τ) 28 rfl r rfl (by omega) (by omega) (by decide) rfl 74 rfl d_Mod_span_73 ?_
                  refine r_iinc (ls2 := [some (.ref (a 0)), some (.int (nI p)), some (.int (nI q)), some (.int (nI ((spN (fun z => rdV x p q (σ 1 p) (σ 2 p) (σ 4) z (ν 6)) s) + 1))), some (.int (nI s)), some (.int (rdV x p q (σ 1 p) (σ 2 p) (σ 4) s (ν 6)))]) (nI ((spN (fun z => rdV x p q (σ 1 p) (σ 2 p) (σ 4) z (ν 6)) s) + 1)) rfl (nI_1 _) 77 rfl d_Mod_span_74 (by decide) rfl rfl ?_
                  refine r_iinc (ls2 := [some (.ref (a 0)), some (.int (nI p)), some (.int (nI q)), some (.int (nI ((spN (fun z => rdV x p q (σ 1 p) (σ 2 p) (σ 4) z (ν 6)) s) + 1))), some (.int (nI (s + 1))), some (.int (rdV x p q (σ 1 p) (σ 2 p) (σ 4) s (ν 6)))]) (nI (s + 1)) rfl (nI_1 _) 80 rfl d_Mod_span_77 (by decide) rfl rfl ?_
                  refine r_goto 27 rfl d_Mod_span_80 ?_
                  refine r_forget (ls2 := [some (.ref (a 0)), some (.int (nI p)), some (.int (nI q)), some (.int (nI ((spN (fun z => rdV x p q (σ 1 p) (σ 2 p) (σ 4) z (ν 6)) s) + 1))), some (.int (nI (s + 1))), none]) 5 rfl ?_
                  refine Runs.cast (ih4 (s + 1) (upd g r (nI 1)) t2 (by omega) ((h42_n hg er hr3 (fun z => h50 z) h60).1) (by omega)) (by rw [(h42_n hg er hr3 (fun z => h50 z) h60).2]; try rfl) rfl (by rw [sp_w]; try rfl)
                · refine r_goto 77 rfl d_Mod_span_63 ?_
                  refine r_iinc (ls2 := [some (.ref (a 0)), some (.int (nI p)), some (.int (nI q)), some (.int (nI (spN (fun z => rdV x p q (σ 1 p) (σ 2 p) (σ 4) z (ν 6)) s))), some (.int (nI (s + 1))), some (.int (rdV x p q (σ 1 p) (σ 2 p) (σ 4) s (ν 6)))]) (nI (s + 1)) rfl (nI_1 _) 80 rfl d_Mod_span_77 (by decide) rfl rfl ?_
                  refine r_goto 27 rfl d_Mod_span_80 ?_
                  refine r_forget (ls2 := [some (.ref (a 0)), some (.int (nI p)), some (.int (nI q)), some (.int (nI (spN (fun z => rdV x p q (σ 1 p) (σ 2 p) (σ 4) z (ν 6)) s))), some (.int (nI (s + 1))), none]) 5 rfl ?_
                  refine Runs.cast (ih4 (s + 1) g t2 (by omega) ((h42_s hg er h60).1) (by omega)) (by rw [(h42_s hg er h60).2]; try rfl) rfl (rfl)
        refine Runs.cast (L27_3 _ 0 g (σ 22) (Nat.zero_le _) (fun z _ hz => h0 z (by omega)) (Nat.lt_succ_self _)) (rfl) rfl (by rw [show u2 (u2 σ 42 g) 22 (σ 22) = u2 σ 42 g from u2_self (σ := u2 σ 42 g) (k := 22)])
      · refine r_aload_n rfl 10 rfl d_Mod_span_9 ?_
        refine r_getf (v := .ref (a 42)) gf_Mod_94 0 rfl rfl 13 rfl d_Mod_span_10 ?_
        refine r_iload_n rfl 14 rfl d_Mod_span_13 ?_
        refine r_iconst (nI 0) rfl 15 rfl d_Mod_span_14 ?_
        refine r_zast (w2 := MW X a ν (u2 (u2 σ 42 g) 42 (upd g i (nI 0))) τ) 28 rfl i rfl (by omega) (by omega) (by decide) rfl 16 rfl d_Mod_span_15 ?_
        refine r_iinc (ls2 := [some (.ref (a 0)), some (.int (nI p)), some (.int (nI q)), some (.int (nI (i + 1))), none, none]) (nI (i + 1)) rfl (nI_1 _) 19 rfl d_Mod_span_16 (by decide) rfl rfl ?_
        refine r_goto 2 rfl d_Mod_span_19 ?_
        refine Runs.cast (ih2 (i + 1) (upd g i (nI 0)) (by omega) (fun j hj => by by_cases e : j = i; rw [e, pk_us]; rw [pk_un e]; exact h0 j (by omega)) (by omega)) (rfl) rfl (by rw [u2_u2]; try rfl)
  refine Runs.cast (L2_1 _ 0 (σ 42) (Nat.zero_le _) (fun _ h => absurd h (Nat.not_lt_zero _)) (Nat.lt_succ_self _)) (rfl) rfl (by rw [u2_self])
theorem c_Mod_between (X : Xn) (a ν : Nat → Nat) (σ : Nat → Nat → Int32) (τ : Nat → Int64) (hn6 : ν 0 ≤ 6) (hd9 : ν 6 ≤ 9999) (x : EX) (hx : heldX σ x) (hvv : ∀ i, i < 6 → ∃ k : Nat, k ≤ 9 ∧ σ 2 i = nI k) (hrw : ∀ i, i < 24 → ∃ k : Nat, k ≤ 9 ∧ σ 4 i = nI k) (p q w : Int32) : Does X 7 M_Mod_between [.ref (a 0), .int p, .int q, .int w] (MW X a ν σ τ) 0 0 (fun (vv : Option Value) (ww : va_W) => ∃ g t : Nat → Int32, vv = some (.int (R_between (ν 0) x (σ 1) (σ 2) (σ 4) (σ 5) (ν 6) p q w)) ∧ ww = MW X a ν (u2 (u2 σ 42 g) 22 t) τ) := by
  generalize hQ : (fun (vv : Option Value) (ww : va_W) => ∃ g t : Nat → Int32, vv = some (.int (R_between (ν 0) x (σ 1) (σ 2) (σ 4) (σ 5) (ν 6) p q w)) ∧ ww = MW X a ν (u2 (u2 σ 42 g) 22 t) τ) = Q
  refine Does.go rfl (Nat.le_of_ble_eq_true rfl) [some (.ref (a 0)), some (.int p), some (.int q), some (.int w)] 0 rfl ?_
  refine r_aload_n rfl 1 rfl d_Mod_between_0 ?_
  refine r_iload_n rfl 2 rfl d_Mod_between_1 ?_
  refine r_iload_n rfl 3 rfl d_Mod_between_2 ?_
  refine r_callVA1 (st2 := [.int (bI (isB (ν 0) p && isB (ν 0) q))]) (w2 := MW X a ν σ τ) lk_Mod_are ln_Mod_140 (c_Mod_are X a ν σ τ p q) (by first | decide | omega) rfl rfl (Nat.le_of_ble_eq_true rfl) (Nat.le_of_ble_eq_true rfl) (Nat.le_of_ble_eq_true rfl) 0 rfl rfl rfl rfl 6 rfl d_Mod_between_3 ?_
  refine r_if_eqB 9 18 rfl rfl d_Mod_between_6 (fun h6 => ?_) (fun h6 => ?_)
  · refine r_iconst ((-1)) rfl 19 rfl d_Mod_between_18 ?_
    exact r_iret rfl (Nat.zero_le _) (Nat.zero_le _) d_Mod_between_19 (by rw [← hQ]; exact ⟨σ 42, σ 22, by simp [R_between, h6], by rw [u2_self, u2_self]⟩)
  · obtain ⟨pN, qN, hpN, hqN, rfl, rfl⟩ := are_t hn6 h6
    have epN : cn (nI pN) = pN := cn_nI (by omega)
    have mpN : ¬ nI pN = -1 := m1n (by omega)
    have eqN : cn (nI qN) = qN := cn_nI (by omega)
    have mqN : ¬ nI qN = -1 := m1n (by omega)
    have bpN := isB_of hn6 hpN
    have bqN := isB_of hn6 hqN
    have epq : (nI pN = nI qN) = (pN = qN) := propext (nI_eq (by omega) (by omega))
    refine r_iload_n rfl 10 rfl d_Mod_between_9 ?_
    refine r_iconst (nI 0) rfl 11 rfl d_Mod_between_10 ?_
    refine r_iconst (nI 1) rfl 12 rfl d_Mod_between_11 ?_
    refine r_callS1 (st2 := [.int (bI (inR w (nI 0) (nI 1)))]) (w2 := MW X a ν σ τ) lk_Mod_within ln_Mod_114 (c_Mod_within X w (nI 0) (nI 1)) (by first | decide | omega) rfl rfl (Nat.le_of_ble_eq_true rfl) (Nat.le_of_ble_eq_true rfl) (Nat.le_of_ble_eq_true rfl) [] rfl rfl rfl rfl rfl 15 rfl d_Mod_between_12 ?_
    refine r_if_neB 18 20 rfl rfl d_Mod_between_15 (fun h15 => ?_) (fun h15 => ?_)
    · obtain ⟨wN, hwN, rfl⟩ := inR_t (by decide) h15
      have ewN : cn (nI wN) = wN := cn_nI (by omega)
      have mwN : ¬ nI wN = -1 := m1n (by omega)
      refine r_iload_n rfl 21 rfl d_Mod_between_20 ?_
      refine r_iload_n rfl 22 rfl d_Mod_between_21 ?_
      refine r_icmp_neN pN qN (by omega) (by omega) 25 28 rfl rfl d_Mod_between_22 (fun h22 => ?_) (fun h22 => ?_)
      · refine r_iload_n rfl 29 rfl d_Mod_between_28 ?_
        refine r_if_neN wN (by omega) 32 46 rfl rfl d_Mod_between_29 (fun h29 => ?_) (fun h29 => ?_)
        · refine r_aload_n rfl 47 rfl d_Mod_between_46 ?_
          refine r_iload_n rfl 48 rfl d_Mod_between_47 ?_
          refine r_iload_n rfl 49 rfl d_Mod_between_48 ?_
          refine r_callVAQ (st2 := []) (w2 := []) lk_Mod_span ln_Mod_251 (c_Mod_span X a ν σ τ hd9 x hx hvv hrw pN qN (by omega) (by omega)) (by first | decide | omega) rfl rfl (Nat.le_of_ble_eq_true rfl) (Nat.le_of_ble_eq_true rfl) (Nat.le_of_ble_eq_true rfl) 0 rfl rfl 52 rfl d_Mod_between_49 (fun vv ww hq2 => ?_)
          obtain ⟨g, t, rfl, rfl⟩ := hq2
          refine ⟨rfl, ?_⟩
          show Runs X 7 M_Mod_between 0 0 Q 52 [some (.ref (a 0)), some (.int (nI pN)), some (.int (nI qN)), some (.int (nI wN))] [.int (nI (spN (fun z => rdV x pN qN (σ 1 pN) (σ 2 pN) (σ 4) z (ν 6)) 100))] 0 0 (MW X a ν (u2 (u2 σ 42 g) 22 t) τ)
          exact r_iret rfl (Nat.zero_le _) (Nat.zero_le _) d_Mod_between_52 (by rw [← hQ]; exact ⟨g, t, by simp [R_between, h6, epN, mpN, eqN, mqN, bpN, bqN, epq, h15, ewN, mwN, h22, h29], rfl⟩)
        · subst h29
          refine r_aload_n rfl 33 rfl d_Mod_between_32 ?_
          refine r_getf (v := .ref (a 5)) gf_Mod_24 0 rfl rfl 36 rfl d_Mod_between_33 ?_
          refine r_bipush (nI 6) rfl 38 rfl d_Mod_between_36 ?_
          refine r_iload_n rfl 39 rfl d_Mod_between_38 ?_
          refine r_imul 40 rfl d_Mod_between_39 ?_
          refine r_topi (nI (6 * pN)) (pk_mul _ _) ?_
          refine r_iload_n rfl 41 rfl d_Mod_between_40 ?_
          refine r_iadd 42 rfl d_Mod_between_41 ?_
          refine r_topi (nI ((6 * pN) + qN)) (nI_add _ _) ?_
          refine r_iald (f := σ 5) 5 rfl ((6 * pN) + qN) rfl (by omega) (by omega) 43 rfl d_Mod_between_42 ?_
          refine r_goto 52 rfl d_Mod_between_43 ?_
          exact r_iret rfl (Nat.zero_le _) (Nat.zero_le _) d_Mod_between_52 (by rw [← hQ]; exact ⟨σ 42, σ 22, by simp [R_between, h6, epN, mpN, eqN, mqN, bpN, bqN, epq, h15, ewN, mwN, h22], by rw [u2_self, u2_self]⟩)
      · refine r_bipush ((-2)) rfl 27 rfl d_Mod_between_25 ?_
        exact r_iret rfl (Nat.zero_le _) (Nat.zero_le _) d_Mod_between_27 (by rw [← hQ]; exact ⟨σ 42, σ 22, by simp [R_between, h6, epN, mpN, eqN, mqN, bpN, bqN, epq, h15, ewN, mwN, h22], by rw [u2_self, u2_self]⟩)
    · refine r_iconst ((-1)) rfl 19 rfl d_Mod_between_18 ?_
      exact r_iret rfl (Nat.zero_le _) (Nat.zero_le _) d_Mod_between_19 (by rw [← hQ]; exact ⟨σ 42, σ 22, by simp [R_between, h6, epN, mpN, eqN, mqN, bpN, bqN, epq, h15], by rw [u2_self, u2_self]⟩)
theorem c_Mod_can (X : Xn) (a ν : Nat → Nat) (σ : Nat → Nat → Int32) (τ : Nat → Int64) (hn6 : ν 0 ≤ 6) (hd9 : ν 6 ≤ 9999) (x : EX) (hx : heldX σ x) (hs5 : ν 23 ≤ 5) (hse : ∀ i, i < ν 23 → ∃ P R S0 D0 : Nat, P < 6 ∧ R < 6 ∧ S0 ≤ 99 ∧ D0 ≤ 20 ∧ σ 24 i = nI P ∧ σ 25 i = nI R ∧ σ 26 i = nI S0 ∧ σ 27 i = nI D0) (p w : Int32) : Does X 8 M_Mod_can [.ref (a 0), .int p, .int w] (MW X a ν σ τ) 0 0 (fun (vv : Option Value) (ww : va_W) => ∃ t : Nat → Int32, vv = some (.int (R_can (ν 0) x (σ 1) (σ 2) (σ 4) (ν 6) (σ 24) (σ 25) (σ 26) (σ 27) (σ 28) (ν 23) p w)) ∧ ww = MW X a ν (u2 σ 22 t) τ) := by
  generalize hQ : (fun (vv : Option Value) (ww : va_W) => ∃ t : Nat → Int32, vv = some (.int (R_can (ν 0) x (σ 1) (σ 2) (σ 4) (ν 6) (σ 24) (σ 25) (σ 26) (σ 27) (σ 28) (ν 23) p w)) ∧ ww = MW X a ν (u2 σ 22 t) τ) = Q
  refine Does.go rfl (Nat.le_of_ble_eq_true rfl) [some (.ref (a 0)), some (.int p), some (.int w), none, none, none, none] 4 rfl ?_
  refine r_aload_n rfl 1 rfl d_Mod_can_0 ?_
  refine r_iload_n rfl 2 rfl d_Mod_can_1 ?_
  refine r_callVA1 (st2 := [.int (bI (isB (ν 0) p))]) (w2 := MW X a ν σ τ) lk_Mod_isOne ln_Mod_118 (c_Mod_isOne X a ν σ τ p) (by first | decide | omega) rfl rfl (Nat.le_of_ble_eq_true rfl) (Nat.le_of_ble_eq_true rfl) (Nat.le_of_ble_eq_true rfl) 0 rfl rfl rfl rfl 5 rfl d_Mod_can_2 ?_
  refine r_if_eqB 8 17 rfl rfl d_Mod_can_5 (fun h5 => ?_) (fun h5 => ?_)
  · refine r_iconst ((-1)) rfl 18 rfl d_Mod_can_17 ?_
    exact r_iret rfl (Nat.zero_le _) (Nat.zero_le _) d_Mod_can_18 (by rw [← hQ]; exact ⟨σ 22, by simp [R_can, h5], by rw [u2_self]⟩)
  · obtain ⟨pN, hpN, rfl⟩ := isB_t hn6 h5
    have epN : cn (nI pN) = pN := cn_nI (by omega)
    have mpN : ¬ nI pN = -1 := m1n (by omega)
    refine r_iload_n rfl 9 rfl d_Mod_can_8 ?_
    refine r_iconst (nI 0) rfl 10 rfl d_Mod_can_9 ?_
    refine r_iconst (nI 1) rfl 11 rfl d_Mod_can_10 ?_
    refine r_callS1 (st2 := [.int (bI (inR w (nI 0) (nI 1)))]) (w2 := MW X a ν σ τ) lk_Mod_within ln_Mod_114 (c_Mod_within X w (nI 0) (nI 1)) (by first | decide | omega) rfl rfl (Nat.le_of_ble_eq_true rfl) (Nat.le_of_ble_eq_true rfl) (Nat.le_of_ble_eq_true rfl) [] rfl rfl rfl rfl rfl 14 rfl d_Mod_can_11 ?_
    refine r_if_neB 17 19 rfl rfl d_Mod_can_14 (fun h14 => ?_) (fun h14 => ?_)
    · obtain ⟨wN, hwN, rfl⟩ := inR_t (by decide) h14
      have ewN : cn (nI wN) = wN := cn_nI (by omega)
      have mwN : ¬ nI wN = -1 := m1n (by omega)
      refine r_aload_n rfl 20 rfl d_Mod_can_19 ?_
      refine r_getf (v := .ref (a 2)) gf_Mod_15 0 rfl rfl 23 rfl d_Mod_can_20 ?_
      refine r_iload_n rfl 24 rfl d_Mod_can_23 ?_
      refine r_iald (f := σ 2) 2 rfl pN rfl (by omega) (by omega) 25 rfl d_Mod_can_24 ?_
      refine r_istore_n (ls2 := [some (.ref (a 0)), some (.int (nI pN)), some (.int (nI wN)), some (.int (σ 2 pN)), none, none, none]) 26 rfl d_Mod_can_25 (by decide) rfl rfl ?_
      refine r_iconst (nI 0) rfl 27 rfl d_Mod_can_26 ?_
      refine r_istore (ls2 := [some (.ref (a 0)), some (.int (nI pN)), some (.int (nI wN)), some (.int (σ 2 pN)), some (.int (nI 0)), none, none]) 29 rfl d_Mod_can_27 (by decide) rfl rfl ?_
      refine r_bipush ((-5)) rfl 31 rfl d_Mod_can_29 ?_
      refine r_istore (ls2 := [some (.ref (a 0)), some (.int (nI pN)), some (.int (nI wN)), some (.int (σ 2 pN)), some (.int (nI 0)), some (.int (-5)), none]) 33 rfl d_Mod_can_31 (by decide) rfl rfl ?_
      refine r_bipush (nI 9) rfl 35 rfl d_Mod_can_33 ?_
      refine r_istore (ls2 := [some (.ref (a 0)), some (.int (nI pN)), some (.int (nI wN)), some (.int (σ 2 pN)), some (.int (nI 0)), some (.int (-5)), some (.int (nI 9))]) 37 rfl d_Mod_can_35 (by decide) rfl rfl ?_
      have L37_1 : ∀ (f : Nat) (k : Nat) (g : Int32) (t : Nat → Int32), (k ≤ 10) → k < f → Runs X 8 M_Mod_can 0 0 Q 37 [some (.ref (a 0)), some (.int (nI pN)), some (.int (nI wN)), some (.int (σ 2 pN)), some (.int (nI ((cnt9 (okV x (σ 1) (σ 2) (σ 4) (ν 6) (σ 24) (σ 25) (σ 26) (σ 27) (σ 28) (ν 23) pN) (10 - k)).1))), some (.int ((cnt9 (okV x (σ 1) (σ 2) (σ 4) (ν 6) (σ 24) (σ 25) (σ 26) (σ 27) (σ 28) (ν 23) pN) (10 - k)).2)), some (.int (nI k - nI 1))] [] 0 0 (MW X a ν (u2 (u2 σ 2 (upd (σ 2) pN (g))) 22 t) τ) := by
        intro f
        induction f with
        | zero => intro k g t hk hmu; exact absurd hmu (Nat.not_lt_zero _)
        | succ f ih2 =>
          intro k g t hk hmu
          refine r_iload rfl 39 rfl d_Mod_can_37 ?_
          refine r_if_lt 42 74 rfl rfl d_Mod_can_39 (fun h39 => ?_) (fun h39 => ?_)
          · refine r_aload_n rfl 75 rfl d_Mod_can_74 ?_
            refine r_getf (v := .ref (a 2)) gf_Mod_15 0 rfl rfl 78 rfl d_Mod_can_75 ?_
            refine r_iload_n rfl 79 rfl d_Mod_can_78 ?_
            refine r_iload_n rfl 80 rfl d_Mod_can_79 ?_
            refine r_iast (w2 := MW X a ν (u2 (u2 (u2 σ 2 (upd (σ 2) pN (g))) 22 t) 2 (upd (upd (σ 2) pN (g)) pN (σ 2 pN))) τ) 2 rfl pN rfl (by omega) (by omega) rfl 81 rfl d_Mod_can_80 ?_
            refine r_iload_n rfl 82 rfl d_Mod_can_81 ?_
            refine r_if_neN wN (by omega) 85 90 rfl rfl d_Mod_can_82 (fun h82 => ?_) (fun h82 => ?_)
            · refine r_iload rfl 92 rfl d_Mod_can_90 ?_
              exact r_iret rfl (Nat.zero_le _) (Nat.zero_le _) d_Mod_can_92 (by rw [← hQ]; exact ⟨t, by rw [show k = 0 from (neg1 k (by omega)).mp h39]; simp [R_can, h5, epN, mpN, h14, ewN, mwN, h82], by rw [can_w, upd_upd, upd_self, u2_self]⟩)
            · subst h82
              refine r_iload rfl 87 rfl d_Mod_can_85 ?_
              refine r_goto 92 rfl d_Mod_can_87 ?_
              exact r_iret rfl (Nat.zero_le _) (Nat.zero_le _) d_Mod_can_92 (by rw [← hQ]; exact ⟨t, by rw [show k = 0 from (neg1 k (by omega)).mp h39]; simp [R_can, h5, epN, mpN, h14, ewN, mwN], by rw [can_w, upd_upd, upd_self, u2_self]⟩)
          · obtain ⟨m, rfl⟩ : ∃ m, k = m + 1 := ⟨k - 1, by have : ¬ k = 0 := fun z => h39 ((neg1 k (by omega)).mpr z); omega⟩
            refine Runs.cast (ls' := [some (.ref (a 0)), some (.int (nI pN)), some (.int (nI wN)), some (.int (σ 2 pN)), some (.int (nI ((cnt9 (okV x (σ 1) (σ 2) (σ 4) (ν 6) (σ 24) (σ 25) (σ 26) (σ 27) (σ 28) (ν 23) pN) (10 - (m + 1))).1))), some (.int ((cnt9 (okV x (σ 1) (σ 2) (σ 4) (ν 6) (σ 24) (σ 25) (σ 26) (σ 27) (σ 28) (ν 23) pN) (10 - (m + 1))).2)), some (.int (nI m))]) ?_ (by rw [sub1]) rfl rfl
            refine r_aload_n rfl 43 rfl d_Mod_can_42 ?_
            refine r_getf (v := .ref (a 2)) gf_Mod_15 0 rfl rfl 46 rfl d_Mod_can_43 ?_
            refine r_iload_n rfl 47 rfl d_Mod_can_46 ?_
            refine r_iload rfl 49 rfl d_Mod_can_47 ?_
            refine r_iast (w2 := MW X a ν (u2 (u2 (u2 σ 2 (upd (σ 2) pN (g))) 22 t) 2 (upd (upd (σ 2) pN (g)) pN (nI m))) τ) 2 rfl pN rfl (by omega) (by omega) rfl 50 rfl d_Mod_can_49 ?_
            refine Runs.cast (w' := MW X a ν (u2 (u2 σ 2 (upd (σ 2) pN (nI m))) 22 t) τ) ?_ rfl rfl (by rw [can_w, upd_upd])
            refine r_aload_n rfl 51 rfl d_Mod_can_50 ?_
            refine r_iload_n rfl 52 rfl d_Mod_can_51 ?_
            refine r_callVAQ (st2 := []) (w2 := []) lk_Mod_isAllSo ln_Mod_303 (c_Mod_isAllSo X a ν (u2 (u2 σ 2 (upd (σ 2) pN (nI m))) 22 t) τ hd9 x hx hs5 hse pN (by omega)) (by first | decide | omega) rfl rfl (Nat.le_of_ble_eq_true rfl) (Nat.le_of_ble_eq_true rfl) (Nat.le_of_ble_eq_true rfl) 0 rfl rfl 55 rfl d_Mod_can_52 (fun vv ww hq2 => ?_)
            obtain ⟨t2, rfl, rfl⟩ := hq2
            refine ⟨rfl, ?_⟩
            show Runs X 8 M_Mod_can 0 0 Q 55 [some (.ref (a 0)), some (.int (nI pN)), some (.int (nI wN)), some (.int (σ 2 pN)), some (.int (nI ((cnt9 (okV x (σ 1) (σ 2) (σ 4) (ν 6) (σ 24) (σ 25) (σ 26) (σ 27) (σ 28) (ν 23) pN) (10 - (m + 1))).1))), some (.int ((cnt9 (okV x (σ 1) (σ 2) (σ 4) (ν 6) (σ 24) (σ 25) (σ 26) (σ 27) (σ 28) (ν 23) pN) (10 - (m + 1))).2)), some (.int (nI m))] [.int (bI (okV x (σ 1) (σ 2) (σ 4) (ν 6) (σ 24) (σ 25) (σ 26) (σ 27) (σ 28) (ν 23) pN m))] 0 0 (MW X a ν (u2 (u2 σ 2 (upd (σ 2) pN (nI m))) 22 t2) τ)
            refine r_if_neB 58 61 rfl rfl d_Mod_can_55 (fun h55 => ?_) (fun h55 => ?_)
            · refine r_iinc (ls2 := [some (.ref (a 0)), some (.int (nI pN)), some (.int (nI wN)), some (.int (σ 2 pN)), some (.int (nI (((cnt9 (okV x (σ 1) (σ 2) (σ 4) (ν 6) (σ 24) (σ 25) (σ 26) (σ 27) (σ 28) (ν 23) pN) (10 - (m + 1))).1) + 1))), some (.int ((cnt9 (okV x (σ 1) (σ 2) (σ 4) (ν 6) (σ 24) (σ 25) (σ 26) (σ 27) (σ 28) (ν 23) pN) (10 - (m + 1))).2)), some (.int (nI m))]) (nI (((cnt9 (okV x (σ 1) (σ 2) (σ 4) (ν 6) (σ 24) (σ 25) (σ 26) (σ 27) (σ 28) (ν 23) pN) (10 - (m + 1))).1) + 1)) rfl (nI_1 _) 64 rfl d_Mod_can_61 (by decide) rfl rfl ?_
              refine r_iload rfl 66 rfl d_Mod_can_64 ?_
              refine r_istore (ls2 := [some (.ref (a 0)), some (.int (nI pN)), some (.int (nI wN)), some (.int (σ 2 pN)), some (.int (nI (((cnt9 (okV x (σ 1) (σ 2) (σ 4) (ν 6) (σ 24) (σ 25) (σ 26) (σ 27) (σ 28) (ν 23) pN) (10 - (m + 1))).1) + 1))), some (.int (nI m)), some (.int (nI m))]) 68 rfl d_Mod_can_66 (by decide) rfl rfl ?_
              refine r_iinc (ls2 := [some (.ref (a 0)), some (.int (nI pN)), some (.int (nI wN)), some (.int (σ 2 pN)), some (.int (nI (((cnt9 (okV x (σ 1) (σ 2) (σ 4) (ν 6) (σ 24) (σ 25) (σ 26) (σ 27) (σ 28) (ν 23) pN) (10 - (m + 1))).1) + 1))), some (.int (nI m)), some (.int ((nI m) + Int32.ofInt (-1)))]) ((nI m) + Int32.ofInt (-1)) rfl (rfl) 71 rfl d_Mod_can_68 (by decide) rfl rfl ?_
              refine r_goto 37 rfl d_Mod_can_71 ?_
              refine Runs.cast (ih2 m (nI m) t2 (by omega) (by omega)) (by rw [dec1, cnt_t (ok := okV x (σ 1) (σ 2) (σ 4) (ν 6) (σ 24) (σ 25) (σ 26) (σ 27) (σ 28) (ν 23) pN) (m := m) (by omega) h55]; try rfl) rfl (rfl)
            · refine r_goto 68 rfl d_Mod_can_58 ?_
              refine r_iinc (ls2 := [some (.ref (a 0)), some (.int (nI pN)), some (.int (nI wN)), some (.int (σ 2 pN)), some (.int (nI ((cnt9 (okV x (σ 1) (σ 2) (σ 4) (ν 6) (σ 24) (σ 25) (σ 26) (σ 27) (σ 28) (ν 23) pN) (10 - (m + 1))).1))), some (.int ((cnt9 (okV x (σ 1) (σ 2) (σ 4) (ν 6) (σ 24) (σ 25) (σ 26) (σ 27) (σ 28) (ν 23) pN) (10 - (m + 1))).2)), some (.int ((nI m) + Int32.ofInt (-1)))]) ((nI m) + Int32.ofInt (-1)) rfl (rfl) 71 rfl d_Mod_can_68 (by decide) rfl rfl ?_
              refine r_goto 37 rfl d_Mod_can_71 ?_
              refine Runs.cast (ih2 m (nI m) t2 (by omega) (by omega)) (by rw [dec1, cnt_f (ok := okV x (σ 1) (σ 2) (σ 4) (ν 6) (σ 24) (σ 25) (σ 26) (σ 27) (σ 28) (ν 23) pN) (m := m) (by omega) h55]; try rfl) rfl (rfl)
      refine Runs.cast (L37_1 _ 10 (σ 2 pN) (σ 22) (Nat.le_refl _) (Nat.lt_succ_self _)) (by rw [show nI 9 = nI 10 - nI 1 from by decide]; rfl) rfl (by rw [upd_self, u2_self, u2_self])
    · refine r_iconst ((-1)) rfl 18 rfl d_Mod_can_17 ?_
      exact r_iret rfl (Nat.zero_le _) (Nat.zero_le _) d_Mod_can_18 (by rw [← hQ]; exact ⟨σ 22, by simp [R_can, h5, epN, mpN, h14], by rw [u2_self]⟩)
theorem c_Mod_told (X : Xn) (a ν : Nat → Nat) (σ : Nat → Nat → Int32) (τ : Nat → Int64) (hn6 : ν 0 ≤ 6) (x : EX) (hx : heldX σ x) (w : Int32) : Does X 12 M_Mod_told [.ref (a 0), .int w] (MW X a ν σ τ) 0 0 (fun (vv : Option Value) (ww : va_W) => ∃ (r : Int32) (t40 t41 : Nat → Int32), toldP (ν 0) (σ 3) (σ 5) (ν 6) x w r ∧ vv = some (.int r) ∧ ww = MW X a ν (u2 (u2 σ 40 t40) 41 t41) τ) := by
  generalize hQ : (fun (vv : Option Value) (ww : va_W) => ∃ (r : Int32) (t40 t41 : Nat → Int32), toldP (ν 0) (σ 3) (σ 5) (ν 6) x w r ∧ vv = some (.int r) ∧ ww = MW X a ν (u2 (u2 σ 40 t40) 41 t41) τ) = Q
  refine Does.go rfl (Nat.le_of_ble_eq_true rfl) [some (.ref (a 0)), some (.int w)] 0 rfl ?_
  refine r_iload_n rfl 1 rfl d_Mod_told_0 ?_
  by_cases h1_0 : w = 0
  · refine r_tableIn 48 d_Mod_told_1 (by rw [h1_0]; decide) (by rw [h1_0]; decide) (by rw [h1_0]; try rfl) rfl ?_
    refine r_aload_n rfl 49 rfl d_Mod_told_48 ?_
    refine r_getf (v := .int (nI (ν 6))) gf_Mod_240 0 rfl rfl 52 rfl d_Mod_told_49 ?_
    exact r_iret rfl (Nat.zero_le _) (Nat.zero_le _) d_Mod_told_52 (by rw [← hQ]; exact ⟨_, σ 40, σ 41, by simp only [toldP, if_pos h1_0], rfl, by rw [u2_self, u2_self]⟩)
  by_cases h1_1 : w = 1
  · refine r_tableIn 53 d_Mod_told_1 (by rw [h1_1]; decide) (by rw [h1_1]; decide) (by rw [h1_1]; try rfl) rfl ?_
    refine r_aload_n rfl 54 rfl d_Mod_told_53 ?_
    refine r_callVA1 (st2 := [.int (nI (bd x x.1))]) (w2 := MW X a ν σ τ) lk_Mod_bind ln_Mod_234 (c_Mod_bind X a ν σ τ x hx) (by first | decide | omega) rfl rfl (Nat.le_of_ble_eq_true rfl) (Nat.le_of_ble_eq_true rfl) (Nat.le_of_ble_eq_true rfl) 0 rfl rfl rfl rfl 57 rfl d_Mod_told_54 ?_
    exact r_iret rfl (Nat.zero_le _) (Nat.zero_le _) d_Mod_told_57 (by rw [← hQ]; exact ⟨_, σ 40, σ 41, by simp only [toldP, if_neg h1_0, if_pos h1_1], rfl, by rw [u2_self, u2_self]⟩)
  by_cases h1_2 : w = 2
  · refine r_tableIn 58 d_Mod_told_1 (by rw [h1_2]; decide) (by rw [h1_2]; decide) (by rw [h1_2]; try rfl) rfl ?_
    refine r_aload_n rfl 59 rfl d_Mod_told_58 ?_
    refine r_iconst (nI 0) rfl 60 rfl d_Mod_told_59 ?_
    refine r_callVA1 (st2 := [.int (nI (fails (ν 0) (σ 3) (σ 5) 0))]) (w2 := MW X a ν σ τ) lk_Mod_fails ln_Mod_134 (c_Mod_fails X a ν σ τ hn6 0 (by first | omega | assumption | exact shl_lt6 (by omega))) (by first | decide | omega) rfl rfl (Nat.le_of_ble_eq_true rfl) (Nat.le_of_ble_eq_true rfl) (Nat.le_of_ble_eq_true rfl) 0 rfl rfl rfl rfl 63 rfl d_Mod_told_60 ?_
    exact r_iret rfl (Nat.zero_le _) (Nat.zero_le _) d_Mod_told_63 (by rw [← hQ]; exact ⟨_, σ 40, σ 41, by simp only [toldP, if_neg h1_0, if_neg h1_1, if_pos h1_2], rfl, by rw [u2_self, u2_self]⟩)
  by_cases h1_3 : w = 3
  · refine r_tableIn 64 d_Mod_told_1 (by rw [h1_3]; decide) (by rw [h1_3]; decide) (by rw [h1_3]; try rfl) rfl ?_
    refine r_aload_n rfl 65 rfl d_Mod_told_64 ?_
    refine r_callVAQ (st2 := []) (w2 := []) lk_Mod_rescue ln_Mod_282 (c_Mod_rescue X a ν σ τ hn6) (by first | decide | omega) rfl rfl (Nat.le_of_ble_eq_true rfl) (Nat.le_of_ble_eq_true rfl) (Nat.le_of_ble_eq_true rfl) 0 rfl rfl 68 rfl d_Mod_told_65 (fun vv ww hq2 => ?_)
    obtain ⟨t9, rfl, rfl⟩ := hq2
    refine ⟨rfl, ?_⟩
    show Runs X 12 M_Mod_told 0 0 Q 68 [some (.ref (a 0)), some (.int w)] [.int (rs (resc (ν 0) (σ 3) (σ 5) (1 <<< ν 0)))] 0 0 (MW X a ν (u2 σ 40 t9) τ)
    exact r_iret rfl (Nat.zero_le _) (Nat.zero_le _) d_Mod_told_68 (by rw [← hQ]; exact ⟨_, t9, σ 41, by simp only [toldP, if_neg h1_0, if_neg h1_1, if_neg h1_2, if_pos h1_3], rfl, by rw [show u2 (u2 σ 40 t9) 41 (σ 41) = u2 σ 40 t9 from u2_self (σ := u2 σ 40 t9) (k := 41)]⟩)
  by_cases h1_4 : w = 4
  · refine r_tableIn 69 d_Mod_told_1 (by rw [h1_4]; decide) (by rw [h1_4]; decide) (by rw [h1_4]; try rfl) rfl ?_
    refine r_aload_n rfl 70 rfl d_Mod_told_69 ?_
    refine r_callVAQ (st2 := []) (w2 := []) lk_Mod_payments ln_Mod_285 (c_Mod_payments X a ν σ τ hn6) (by first | decide | omega) rfl rfl (Nat.le_of_ble_eq_true rfl) (Nat.le_of_ble_eq_true rfl) (Nat.le_of_ble_eq_true rfl) 0 rfl rfl 73 rfl d_Mod_told_70 (fun vv ww hq2 => ?_)
    obtain ⟨t9, rfl, rfl⟩ := hq2
    refine ⟨rfl, ?_⟩
    show Runs X 12 M_Mod_told 0 0 Q 73 [some (.ref (a 0)), some (.int w)] [.int (nI (ν 0) - ptab (ν 0) (σ 5) (σ 41) (1 <<< ν 0 - 1) (1 <<< ν 0 - 1))] 0 0 (MW X a ν (u2 σ 41 t9) τ)
    exact r_iret rfl (Nat.zero_le _) (Nat.zero_le _) d_Mod_told_73 (by rw [← hQ]; exact ⟨_, σ 40, t9, by simp only [toldP, if_neg h1_0, if_neg h1_1, if_neg h1_2, if_neg h1_3, if_pos h1_4]; exact ⟨σ 41, rfl⟩, rfl, by rw [u2_self]⟩)
  by_cases h1_5 : w = 5
  · refine r_tableIn 74 d_Mod_told_1 (by rw [h1_5]; decide) (by rw [h1_5]; decide) (by rw [h1_5]; try rfl) rfl ?_
    refine r_aload_n rfl 75 rfl d_Mod_told_74 ?_
    refine r_callVA1 (st2 := [.int (ringA (ν 0) (σ 5) (ν 0))]) (w2 := MW X a ν σ τ) lk_Mod_ring ln_Mod_288 (c_Mod_ring X a ν σ τ hn6) (by first | decide | omega) rfl rfl (Nat.le_of_ble_eq_true rfl) (Nat.le_of_ble_eq_true rfl) (Nat.le_of_ble_eq_true rfl) 0 rfl rfl rfl rfl 78 rfl d_Mod_told_75 ?_
    exact r_iret rfl (Nat.zero_le _) (Nat.zero_le _) d_Mod_told_78 (by rw [← hQ]; exact ⟨_, σ 40, σ 41, by simp only [toldP, if_neg h1_0, if_neg h1_1, if_neg h1_2, if_neg h1_3, if_neg h1_4, if_pos h1_5], rfl, by rw [u2_self, u2_self]⟩)
  by_cases h1_6 : w = 6
  · refine r_tableIn 79 d_Mod_told_1 (by rw [h1_6]; decide) (by rw [h1_6]; decide) (by rw [h1_6]; try rfl) rfl ?_
    refine r_aload_n rfl 80 rfl d_Mod_told_79 ?_
    refine r_callVA1 (st2 := [.int (offO (ν 0) (σ 5) (ν 0))]) (w2 := MW X a ν σ τ) lk_Mod_offset ln_Mod_291 (c_Mod_offset X a ν σ τ hn6) (by first | decide | omega) rfl rfl (Nat.le_of_ble_eq_true rfl) (Nat.le_of_ble_eq_true rfl) (Nat.le_of_ble_eq_true rfl) 0 rfl rfl rfl rfl 83 rfl d_Mod_told_80 ?_
    exact r_iret rfl (Nat.zero_le _) (Nat.zero_le _) d_Mod_told_83 (by rw [← hQ]; exact ⟨_, σ 40, σ 41, by simp only [toldP, if_neg h1_0, if_neg h1_1, if_neg h1_2, if_neg h1_3, if_neg h1_4, if_neg h1_5, if_pos h1_6], rfl, by rw [u2_self, u2_self]⟩)
  by_cases h1_7 : w = 7
  · refine r_tableIn 84 d_Mod_told_1 (by rw [h1_7]; decide) (by rw [h1_7]; decide) (by rw [h1_7]; try rfl) rfl ?_
    refine r_aload_n rfl 85 rfl d_Mod_told_84 ?_
    refine r_callVA1 (st2 := [.int (osumAll (ν 0) (σ 5) (ν 0))]) (w2 := MW X a ν σ τ) lk_Mod_allDebt ln_Mod_294 (c_Mod_allDebt X a ν σ τ hn6) (by first | decide | omega) rfl rfl (Nat.le_of_ble_eq_true rfl) (Nat.le_of_ble_eq_true rfl) (Nat.le_of_ble_eq_true rfl) 0 rfl rfl rfl rfl 88 rfl d_Mod_told_85 ?_
    exact r_iret rfl (Nat.zero_le _) (Nat.zero_le _) d_Mod_told_88 (by rw [← hQ]; exact ⟨_, σ 40, σ 41, by simp only [toldP, if_neg h1_0, if_neg h1_1, if_neg h1_2, if_neg h1_3, if_neg h1_4, if_neg h1_5, if_neg h1_6, if_pos h1_7], rfl, by rw [u2_self, u2_self]⟩)
  have t1_0 : ¬ (w).toInt = 0 := lv_neT h1_0 (by decide)
  have t1_1 : ¬ (w).toInt = 1 := lv_neT h1_1 (by decide)
  have t1_2 : ¬ (w).toInt = 2 := lv_neT h1_2 (by decide)
  have t1_3 : ¬ (w).toInt = 3 := lv_neT h1_3 (by decide)
  have t1_4 : ¬ (w).toInt = 4 := lv_neT h1_4 (by decide)
  have t1_5 : ¬ (w).toInt = 5 := lv_neT h1_5 (by decide)
  have t1_6 : ¬ (w).toInt = 6 := lv_neT h1_6 (by decide)
  have t1_7 : ¬ (w).toInt = 7 := lv_neT h1_7 (by decide)
  refine r_tableOut 89 d_Mod_told_1 (by omega) rfl ?_
  refine r_iconst ((-1)) rfl 90 rfl d_Mod_told_89 ?_
  exact r_iret rfl (Nat.zero_le _) (Nat.zero_le _) d_Mod_told_90 (by rw [← hQ]; exact ⟨_, σ 40, σ 41, by simp only [toldP, if_neg h1_0, if_neg h1_1, if_neg h1_2, if_neg h1_3, if_neg h1_4, if_neg h1_5, if_neg h1_6, if_neg h1_7], rfl, by rw [u2_self, u2_self]⟩)
