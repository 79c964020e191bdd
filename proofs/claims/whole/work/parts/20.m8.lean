def M_Mod_act : XM := (⟨"HandshakeBindsModel", "act", "(III)I"⟩, prog_11_method_72_code, 5, (some .int))
theorem d_Mod_act_0 : decode M_Mod_act.2.1 0 = .ok (.aload_n 0, 1) := by decide +kernel
theorem d_Mod_act_1 : decode M_Mod_act.2.1 1 = .ok (.iconst 0, 1) := by decide +kernel
theorem d_Mod_act_2 : decode M_Mod_act.2.1 2 = .ok (.putfield 326, 3) := by decide +kernel
theorem d_Mod_act_5 : decode M_Mod_act.2.1 5 = .ok (.aload_n 0, 1) := by decide +kernel
theorem d_Mod_act_6 : decode M_Mod_act.2.1 6 = .ok (.iload_n 1, 1) := by decide +kernel
theorem d_Mod_act_7 : decode M_Mod_act.2.1 7 = .ok (.invokevirtual 118, 3) := by decide +kernel
theorem d_Mod_act_10 : decode M_Mod_act.2.1 10 = .ok (.ifCond .eq 12, 3) := by decide +kernel
theorem d_Mod_act_22 : decode M_Mod_act.2.1 22 = .ok (.iconst 0, 1) := by decide +kernel
theorem d_Mod_act_23 : decode M_Mod_act.2.1 23 = .ok (.ireturn, 1) := by decide +kernel
theorem d_Mod_act_13 : decode M_Mod_act.2.1 13 = .ok (.iload_n 2, 1) := by decide +kernel
theorem d_Mod_act_14 : decode M_Mod_act.2.1 14 = .ok (.iconst 0, 1) := by decide +kernel
theorem d_Mod_act_15 : decode M_Mod_act.2.1 15 = .ok (.iconst 2, 1) := by decide +kernel
theorem d_Mod_act_16 : decode M_Mod_act.2.1 16 = .ok (.invokestatic 114, 3) := by decide +kernel
theorem d_Mod_act_19 : decode M_Mod_act.2.1 19 = .ok (.ifCond .ne 5, 3) := by decide +kernel
theorem d_Mod_act_24 : decode M_Mod_act.2.1 24 = .ok (.aload_n 0, 1) := by decide +kernel
theorem d_Mod_act_25 : decode M_Mod_act.2.1 25 = .ok (.getfield 9, 3) := by decide +kernel
theorem d_Mod_act_28 : decode M_Mod_act.2.1 28 = .ok (.iload_n 1, 1) := by decide +kernel
theorem d_Mod_act_29 : decode M_Mod_act.2.1 29 = .ok (.iaload, 1) := by decide +kernel
theorem d_Mod_act_30 : decode M_Mod_act.2.1 30 = .ok (.istore 4, 2) := by decide +kernel
theorem d_Mod_act_32 : decode M_Mod_act.2.1 32 = .ok (.iload_n 2, 1) := by decide +kernel
theorem d_Mod_act_33 : decode M_Mod_act.2.1 33 = .ok (.ifCond .ne 14, 3) := by decide +kernel
theorem d_Mod_act_47 : decode M_Mod_act.2.1 47 = .ok (.iload_n 2, 1) := by decide +kernel
theorem d_Mod_act_48 : decode M_Mod_act.2.1 48 = .ok (.iconst 1, 1) := by decide +kernel
theorem d_Mod_act_49 : decode M_Mod_act.2.1 49 = .ok (.if_icmp .ne 14, 3) := by decide +kernel
theorem d_Mod_act_63 : decode M_Mod_act.2.1 63 = .ok (.aload_n 0, 1) := by decide +kernel
theorem d_Mod_act_64 : decode M_Mod_act.2.1 64 = .ok (.iload_n 1, 1) := by decide +kernel
theorem d_Mod_act_65 : decode M_Mod_act.2.1 65 = .ok (.iload 4, 2) := by decide +kernel
theorem d_Mod_act_67 : decode M_Mod_act.2.1 67 = .ok (.iload_n 3, 1) := by decide +kernel
theorem d_Mod_act_68 : decode M_Mod_act.2.1 68 = .ok (.invokevirtual 342, 3) := by decide +kernel
theorem d_Mod_act_71 : decode M_Mod_act.2.1 71 = .ok (.ireturn, 1) := by decide +kernel
theorem d_Mod_act_52 : decode M_Mod_act.2.1 52 = .ok (.aload_n 0, 1) := by decide +kernel
theorem d_Mod_act_53 : decode M_Mod_act.2.1 53 = .ok (.iload_n 1, 1) := by decide +kernel
theorem d_Mod_act_54 : decode M_Mod_act.2.1 54 = .ok (.iload 4, 2) := by decide +kernel
theorem d_Mod_act_56 : decode M_Mod_act.2.1 56 = .ok (.iload_n 3, 1) := by decide +kernel
theorem d_Mod_act_57 : decode M_Mod_act.2.1 57 = .ok (.invokevirtual 339, 3) := by decide +kernel
theorem d_Mod_act_60 : decode M_Mod_act.2.1 60 = .ok (.goto 11, 3) := by decide +kernel
theorem d_Mod_act_36 : decode M_Mod_act.2.1 36 = .ok (.aload_n 0, 1) := by decide +kernel
theorem d_Mod_act_37 : decode M_Mod_act.2.1 37 = .ok (.iload_n 1, 1) := by decide +kernel
theorem d_Mod_act_38 : decode M_Mod_act.2.1 38 = .ok (.iload 4, 2) := by decide +kernel
theorem d_Mod_act_40 : decode M_Mod_act.2.1 40 = .ok (.iload_n 3, 1) := by decide +kernel
theorem d_Mod_act_41 : decode M_Mod_act.2.1 41 = .ok (.invokevirtual 332, 3) := by decide +kernel
theorem d_Mod_act_44 : decode M_Mod_act.2.1 44 = .ok (.goto 27, 3) := by decide +kernel
def M_Mod_trace : XM := (⟨"HandshakeBindsModel", "trace", "(I)I"⟩, prog_11_method_73_code, 2, (some .int))
theorem d_Mod_trace_0 : decode M_Mod_trace.2.1 0 = .ok (.iload_n 1, 1) := by decide +kernel
theorem d_Mod_trace_1 : decode M_Mod_trace.2.1 1 = .ok (.iconst 0, 1) := by decide +kernel
theorem d_Mod_trace_2 : decode M_Mod_trace.2.1 2 = .ok (.bipush 20, 2) := by decide +kernel
theorem d_Mod_trace_4 : decode M_Mod_trace.2.1 4 = .ok (.aload_n 0, 1) := by decide +kernel
theorem d_Mod_trace_5 : decode M_Mod_trace.2.1 5 = .ok (.getfield 326, 3) := by decide +kernel
theorem d_Mod_trace_8 : decode M_Mod_trace.2.1 8 = .ok (.invokestatic 246, 3) := by decide +kernel
theorem d_Mod_trace_11 : decode M_Mod_trace.2.1 11 = .ok (.iconst 1, 1) := by decide +kernel
theorem d_Mod_trace_12 : decode M_Mod_trace.2.1 12 = .ok (.isub, 1) := by decide +kernel
theorem d_Mod_trace_13 : decode M_Mod_trace.2.1 13 = .ok (.invokestatic 114, 3) := by decide +kernel
theorem d_Mod_trace_16 : decode M_Mod_trace.2.1 16 = .ok (.ifCond .eq 12, 3) := by decide +kernel
theorem d_Mod_trace_28 : decode M_Mod_trace.2.1 28 = .ok (.iconst (-1), 1) := by decide +kernel
theorem d_Mod_trace_29 : decode M_Mod_trace.2.1 29 = .ok (.ireturn, 1) := by decide +kernel
theorem d_Mod_trace_19 : decode M_Mod_trace.2.1 19 = .ok (.aload_n 0, 1) := by decide +kernel
theorem d_Mod_trace_20 : decode M_Mod_trace.2.1 20 = .ok (.getfield 82, 3) := by decide +kernel
theorem d_Mod_trace_23 : decode M_Mod_trace.2.1 23 = .ok (.iload_n 1, 1) := by decide +kernel
theorem d_Mod_trace_24 : decode M_Mod_trace.2.1 24 = .ok (.iaload, 1) := by decide +kernel
theorem d_Mod_trace_25 : decode M_Mod_trace.2.1 25 = .ok (.goto 4, 3) := by decide +kernel
def M_Mod_count : XM := (⟨"HandshakeBindsModel", "count", "(I)I"⟩, prog_11_method_75_code, 2, (some .int))
theorem d_Mod_count_0 : decode M_Mod_count.2.1 0 = .ok (.iload_n 1, 1) := by decide +kernel
theorem d_Mod_count_1 : decode M_Mod_count.2.1 1 = .ok (.tableswitch 78 0 6 #[43, 48, 53, 58, 63, 68, 73], 43) := by decide +kernel
theorem d_Mod_count_44 : decode M_Mod_count.2.1 44 = .ok (.aload_n 0, 1) := by decide +kernel
theorem d_Mod_count_45 : decode M_Mod_count.2.1 45 = .ok (.getfield 111, 3) := by decide +kernel
theorem d_Mod_count_48 : decode M_Mod_count.2.1 48 = .ok (.ireturn, 1) := by decide +kernel
theorem d_Mod_count_49 : decode M_Mod_count.2.1 49 = .ok (.aload_n 0, 1) := by decide +kernel
theorem d_Mod_count_50 : decode M_Mod_count.2.1 50 = .ok (.getfield 216, 3) := by decide +kernel
theorem gf_Mod_216 : GF "HandshakeBindsModel" 216 9 13 := ⟨_, _, _, rfl, by decide, i_Mod, inTB 863 (by decide +kernel) rfl⟩
theorem d_Mod_count_53 : decode M_Mod_count.2.1 53 = .ok (.ireturn, 1) := by decide +kernel
theorem d_Mod_count_54 : decode M_Mod_count.2.1 54 = .ok (.aload_n 0, 1) := by decide +kernel
theorem d_Mod_count_55 : decode M_Mod_count.2.1 55 = .ok (.getfield 297, 3) := by decide +kernel
theorem d_Mod_count_58 : decode M_Mod_count.2.1 58 = .ok (.ireturn, 1) := by decide +kernel
theorem d_Mod_count_59 : decode M_Mod_count.2.1 59 = .ok (.aload_n 0, 1) := by decide +kernel
theorem d_Mod_count_60 : decode M_Mod_count.2.1 60 = .ok (.getfield 312, 3) := by decide +kernel
theorem d_Mod_count_63 : decode M_Mod_count.2.1 63 = .ok (.ireturn, 1) := by decide +kernel
theorem d_Mod_count_64 : decode M_Mod_count.2.1 64 = .ok (.aload_n 0, 1) := by decide +kernel
theorem d_Mod_count_65 : decode M_Mod_count.2.1 65 = .ok (.getfield 319, 3) := by decide +kernel
theorem d_Mod_count_68 : decode M_Mod_count.2.1 68 = .ok (.ireturn, 1) := by decide +kernel
theorem d_Mod_count_69 : decode M_Mod_count.2.1 69 = .ok (.aload_n 0, 1) := by decide +kernel
theorem d_Mod_count_70 : decode M_Mod_count.2.1 70 = .ok (.getfield 144, 3) := by decide +kernel
theorem d_Mod_count_73 : decode M_Mod_count.2.1 73 = .ok (.ireturn, 1) := by decide +kernel
theorem d_Mod_count_74 : decode M_Mod_count.2.1 74 = .ok (.aload_n 0, 1) := by decide +kernel
theorem d_Mod_count_75 : decode M_Mod_count.2.1 75 = .ok (.getfield 326, 3) := by decide +kernel
theorem d_Mod_count_78 : decode M_Mod_count.2.1 78 = .ok (.ireturn, 1) := by decide +kernel
theorem d_Mod_count_79 : decode M_Mod_count.2.1 79 = .ok (.bipush (-2), 2) := by decide +kernel
theorem d_Mod_count_81 : decode M_Mod_count.2.1 81 = .ok (.ireturn, 1) := by decide +kernel
def M_Mod_image : XM := (⟨"HandshakeBindsModel", "image", "()I"⟩, prog_11_method_65_code, 1, (some .int))
theorem d_Mod_image_0 : decode M_Mod_image.2.1 0 = .ok (.aload_n 0, 1) := by decide +kernel
theorem d_Mod_image_1 : decode M_Mod_image.2.1 1 = .ok (.iconst 1, 1) := by decide +kernel
theorem d_Mod_image_2 : decode M_Mod_image.2.1 2 = .ok (.putfield 322, 3) := by decide +kernel
theorem pf_Mod_322 : PF "HandshakeBindsModel" 322 9 38 (.boolean) false := ⟨_, _, _, t_Mod, rfl, by decide, i_Mod, t_Mod_ok, n_Mod, inTB 888 (by decide +kernel) rfl, rfl, t_Mod_ok 38 (by decide), fun _ => rfl⟩
theorem d_Mod_image_5 : decode M_Mod_image.2.1 5 = .ok (.aload_n 0, 1) := by decide +kernel
theorem d_Mod_image_6 : decode M_Mod_image.2.1 6 = .ok (.aload_n 0, 1) := by decide +kernel
theorem d_Mod_image_7 : decode M_Mod_image.2.1 7 = .ok (.getfield 85, 3) := by decide +kernel
theorem gf_Mod_85 : GF "HandshakeBindsModel" 85 9 39 := ⟨_, _, _, rfl, by decide, i_Mod, inTB 889 (by decide +kernel) rfl⟩
theorem d_Mod_image_10 : decode M_Mod_image.2.1 10 = .ok (.invokevirtual 254, 3) := by decide +kernel
theorem d_Mod_image_13 : decode M_Mod_image.2.1 13 = .ok (.aload_n 0, 1) := by decide +kernel
theorem d_Mod_image_14 : decode M_Mod_image.2.1 14 = .ok (.getfield 111, 3) := by decide +kernel
theorem d_Mod_image_17 : decode M_Mod_image.2.1 17 = .ok (.ireturn, 1) := by decide +kernel
def M_Mod_undo : XM := (⟨"HandshakeBindsModel", "undo", "()I"⟩, prog_11_method_66_code, 1, (some .int))
theorem d_Mod_undo_0 : decode M_Mod_undo.2.1 0 = .ok (.aload_n 0, 1) := by decide +kernel
theorem d_Mod_undo_1 : decode M_Mod_undo.2.1 1 = .ok (.getfield 322, 3) := by decide +kernel
theorem gf_Mod_322 : GF "HandshakeBindsModel" 322 9 38 := ⟨_, _, _, rfl, by decide, i_Mod, inTB 888 (by decide +kernel) rfl⟩
theorem d_Mod_undo_4 : decode M_Mod_undo.2.1 4 = .ok (.ifCond .ne 6, 3) := by decide +kernel
theorem d_Mod_undo_7 : decode M_Mod_undo.2.1 7 = .ok (.bipush (-3), 2) := by decide +kernel
theorem d_Mod_undo_9 : decode M_Mod_undo.2.1 9 = .ok (.ireturn, 1) := by decide +kernel
theorem d_Mod_undo_10 : decode M_Mod_undo.2.1 10 = .ok (.aload_n 0, 1) := by decide +kernel
theorem d_Mod_undo_11 : decode M_Mod_undo.2.1 11 = .ok (.aload_n 0, 1) := by decide +kernel
theorem d_Mod_undo_12 : decode M_Mod_undo.2.1 12 = .ok (.getfield 85, 3) := by decide +kernel
theorem d_Mod_undo_15 : decode M_Mod_undo.2.1 15 = .ok (.invokevirtual 259, 3) := by decide +kernel
theorem d_Mod_undo_18 : decode M_Mod_undo.2.1 18 = .ok (.aload_n 0, 1) := by decide +kernel
theorem d_Mod_undo_19 : decode M_Mod_undo.2.1 19 = .ok (.getfield 111, 3) := by decide +kernel
theorem d_Mod_undo_22 : decode M_Mod_undo.2.1 22 = .ok (.ireturn, 1) := by decide +kernel
def M_Mod_taken : XM := (⟨"HandshakeBindsModel", "taken", "(II)I"⟩, prog_11_method_74_code, 4, (some .int))
theorem d_Mod_taken_0 : decode M_Mod_taken.2.1 0 = .ok (.iload_n 2, 1) := by decide +kernel
theorem d_Mod_taken_1 : decode M_Mod_taken.2.1 1 = .ok (.iconst 0, 1) := by decide +kernel
theorem d_Mod_taken_2 : decode M_Mod_taken.2.1 2 = .ok (.bipush 6, 2) := by decide +kernel
theorem d_Mod_taken_4 : decode M_Mod_taken.2.1 4 = .ok (.invokestatic 114, 3) := by decide +kernel
theorem d_Mod_taken_7 : decode M_Mod_taken.2.1 7 = .ok (.ifCond .ne 6, 3) := by decide +kernel
theorem d_Mod_taken_13 : decode M_Mod_taken.2.1 13 = .ok (.aload_n 0, 1) := by decide +kernel
theorem d_Mod_taken_14 : decode M_Mod_taken.2.1 14 = .ok (.iload_n 1, 1) := by decide +kernel
theorem d_Mod_taken_15 : decode M_Mod_taken.2.1 15 = .ok (.invokevirtual 118, 3) := by decide +kernel
theorem d_Mod_taken_18 : decode M_Mod_taken.2.1 18 = .ok (.ifCond .ne 6, 3) := by decide +kernel
theorem d_Mod_taken_24 : decode M_Mod_taken.2.1 24 = .ok (.aload_n 0, 1) := by decide +kernel
theorem d_Mod_taken_25 : decode M_Mod_taken.2.1 25 = .ok (.getfield 9, 3) := by decide +kernel
theorem d_Mod_taken_28 : decode M_Mod_taken.2.1 28 = .ok (.iload_n 1, 1) := by decide +kernel
theorem d_Mod_taken_29 : decode M_Mod_taken.2.1 29 = .ok (.iaload, 1) := by decide +kernel
theorem d_Mod_taken_30 : decode M_Mod_taken.2.1 30 = .ok (.istore_n 3, 1) := by decide +kernel
theorem d_Mod_taken_31 : decode M_Mod_taken.2.1 31 = .ok (.iload_n 3, 1) := by decide +kernel
theorem d_Mod_taken_32 : decode M_Mod_taken.2.1 32 = .ok (.iload_n 2, 1) := by decide +kernel
theorem d_Mod_taken_33 : decode M_Mod_taken.2.1 33 = .ok (.if_icmp .eq 15, 3) := by decide +kernel
theorem d_Mod_taken_48 : decode M_Mod_taken.2.1 48 = .ok (.iload_n 3, 1) := by decide +kernel
theorem d_Mod_taken_49 : decode M_Mod_taken.2.1 49 = .ok (.iload_n 2, 1) := by decide +kernel
theorem d_Mod_taken_50 : decode M_Mod_taken.2.1 50 = .ok (.if_icmp .ne 12, 3) := by decide +kernel
theorem d_Mod_taken_62 : decode M_Mod_taken.2.1 62 = .ok (.bipush (-12), 2) := by decide +kernel
theorem d_Mod_taken_64 : decode M_Mod_taken.2.1 64 = .ok (.ireturn, 1) := by decide +kernel
theorem d_Mod_taken_53 : decode M_Mod_taken.2.1 53 = .ok (.aload_n 0, 1) := by decide +kernel
theorem d_Mod_taken_54 : decode M_Mod_taken.2.1 54 = .ok (.getfield 9, 3) := by decide +kernel
theorem d_Mod_taken_57 : decode M_Mod_taken.2.1 57 = .ok (.iload_n 1, 1) := by decide +kernel
theorem d_Mod_taken_58 : decode M_Mod_taken.2.1 58 = .ok (.iaload, 1) := by decide +kernel
theorem d_Mod_taken_59 : decode M_Mod_taken.2.1 59 = .ok (.goto 5, 3) := by decide +kernel
theorem d_Mod_taken_36 : decode M_Mod_taken.2.1 36 = .ok (.iload_n 3, 1) := by decide +kernel
theorem d_Mod_taken_37 : decode M_Mod_taken.2.1 37 = .ok (.ifCond .le 11, 3) := by decide +kernel
theorem d_Mod_taken_40 : decode M_Mod_taken.2.1 40 = .ok (.iload_n 3, 1) := by decide +kernel
theorem d_Mod_taken_41 : decode M_Mod_taken.2.1 41 = .ok (.invokestatic 336, 3) := by decide +kernel
theorem d_Mod_taken_44 : decode M_Mod_taken.2.1 44 = .ok (.istore_n 3, 1) := by decide +kernel
theorem d_Mod_taken_45 : decode M_Mod_taken.2.1 45 = .ok (.goto (-14), 3) := by decide +kernel
theorem d_Mod_taken_21 : decode M_Mod_taken.2.1 21 = .ok (.bipush (-11), 2) := by decide +kernel
theorem d_Mod_taken_23 : decode M_Mod_taken.2.1 23 = .ok (.ireturn, 1) := by decide +kernel
theorem d_Mod_taken_10 : decode M_Mod_taken.2.1 10 = .ok (.bipush (-2), 2) := by decide +kernel
theorem d_Mod_taken_12 : decode M_Mod_taken.2.1 12 = .ok (.ireturn, 1) := by decide +kernel
def M_Mod_of : XM := (⟨"HandshakeBindsModel", "of", "(II)I"⟩, prog_11_method_10_code, 3, (some .int))
theorem d_Mod_of_0 : decode M_Mod_of.2.1 0 = .ok (.aload_n 0, 1) := by decide +kernel
theorem d_Mod_of_1 : decode M_Mod_of.2.1 1 = .ok (.iload_n 1, 1) := by decide +kernel
theorem d_Mod_of_2 : decode M_Mod_of.2.1 2 = .ok (.invokevirtual 118, 3) := by decide +kernel
theorem d_Mod_of_5 : decode M_Mod_of.2.1 5 = .ok (.ifCond .ne 6, 3) := by decide +kernel
theorem d_Mod_of_11 : decode M_Mod_of.2.1 11 = .ok (.iload_n 2, 1) := by decide +kernel
theorem d_Mod_of_12 : decode M_Mod_of.2.1 12 = .ok (.tableswitch 102 0 7 #[48, 55, 62, 69, 75, 82, 88, 96], 48) := by decide +kernel
theorem d_Mod_of_60 : decode M_Mod_of.2.1 60 = .ok (.aload_n 0, 1) := by decide +kernel
theorem d_Mod_of_61 : decode M_Mod_of.2.1 61 = .ok (.getfield 9, 3) := by decide +kernel
theorem d_Mod_of_64 : decode M_Mod_of.2.1 64 = .ok (.iload_n 1, 1) := by decide +kernel
theorem d_Mod_of_65 : decode M_Mod_of.2.1 65 = .ok (.iaload, 1) := by decide +kernel
theorem d_Mod_of_66 : decode M_Mod_of.2.1 66 = .ok (.ireturn, 1) := by decide +kernel
theorem d_Mod_of_67 : decode M_Mod_of.2.1 67 = .ok (.aload_n 0, 1) := by decide +kernel
theorem d_Mod_of_68 : decode M_Mod_of.2.1 68 = .ok (.getfield 15, 3) := by decide +kernel
theorem d_Mod_of_71 : decode M_Mod_of.2.1 71 = .ok (.iload_n 1, 1) := by decide +kernel
theorem d_Mod_of_72 : decode M_Mod_of.2.1 72 = .ok (.iaload, 1) := by decide +kernel
theorem d_Mod_of_73 : decode M_Mod_of.2.1 73 = .ok (.ireturn, 1) := by decide +kernel
theorem d_Mod_of_74 : decode M_Mod_of.2.1 74 = .ok (.aload_n 0, 1) := by decide +kernel
theorem d_Mod_of_75 : decode M_Mod_of.2.1 75 = .ok (.getfield 18, 3) := by decide +kernel
theorem d_Mod_of_78 : decode M_Mod_of.2.1 78 = .ok (.iload_n 1, 1) := by decide +kernel
theorem d_Mod_of_79 : decode M_Mod_of.2.1 79 = .ok (.iaload, 1) := by decide +kernel
theorem d_Mod_of_80 : decode M_Mod_of.2.1 80 = .ok (.ireturn, 1) := by decide +kernel
theorem d_Mod_of_81 : decode M_Mod_of.2.1 81 = .ok (.aload_n 0, 1) := by decide +kernel
theorem d_Mod_of_82 : decode M_Mod_of.2.1 82 = .ok (.iload_n 1, 1) := by decide +kernel
theorem d_Mod_of_83 : decode M_Mod_of.2.1 83 = .ok (.invokevirtual 126, 3) := by decide +kernel
theorem d_Mod_of_86 : decode M_Mod_of.2.1 86 = .ok (.ireturn, 1) := by decide +kernel
theorem d_Mod_of_87 : decode M_Mod_of.2.1 87 = .ok (.aload_n 0, 1) := by decide +kernel
theorem d_Mod_of_88 : decode M_Mod_of.2.1 88 = .ok (.iload_n 1, 1) := by decide +kernel
theorem d_Mod_of_89 : decode M_Mod_of.2.1 89 = .ok (.iconst 0, 1) := by decide +kernel
theorem d_Mod_of_90 : decode M_Mod_of.2.1 90 = .ok (.invokevirtual 122, 3) := by decide +kernel
theorem d_Mod_of_93 : decode M_Mod_of.2.1 93 = .ok (.ireturn, 1) := by decide +kernel
theorem d_Mod_of_94 : decode M_Mod_of.2.1 94 = .ok (.aload_n 0, 1) := by decide +kernel
theorem d_Mod_of_95 : decode M_Mod_of.2.1 95 = .ok (.iload_n 1, 1) := by decide +kernel
theorem d_Mod_of_96 : decode M_Mod_of.2.1 96 = .ok (.invokevirtual 131, 3) := by decide +kernel
theorem d_Mod_of_99 : decode M_Mod_of.2.1 99 = .ok (.ireturn, 1) := by decide +kernel
theorem d_Mod_of_100 : decode M_Mod_of.2.1 100 = .ok (.aload_n 0, 1) := by decide +kernel
theorem d_Mod_of_101 : decode M_Mod_of.2.1 101 = .ok (.iconst 1, 1) := by decide +kernel
theorem d_Mod_of_102 : decode M_Mod_of.2.1 102 = .ok (.iload_n 1, 1) := by decide +kernel
theorem d_Mod_of_103 : decode M_Mod_of.2.1 103 = .ok (.ishl, 1) := by decide +kernel
theorem d_Mod_of_104 : decode M_Mod_of.2.1 104 = .ok (.invokevirtual 134, 3) := by decide +kernel
theorem d_Mod_of_107 : decode M_Mod_of.2.1 107 = .ok (.ireturn, 1) := by decide +kernel
theorem d_Mod_of_108 : decode M_Mod_of.2.1 108 = .ok (.aload_n 0, 1) := by decide +kernel
theorem d_Mod_of_109 : decode M_Mod_of.2.1 109 = .ok (.iload_n 1, 1) := by decide +kernel
theorem d_Mod_of_110 : decode M_Mod_of.2.1 110 = .ok (.invokevirtual 137, 3) := by decide +kernel
theorem ln_Mod_137 : Cond.methodLink "HandshakeBindsModel" 137 M_Mod_gift.1 ∈ TB := inTB 1022 (by decide +kernel) rfl
theorem lk_Mod_gift : LVt M_Mod_gift 1 := ⟨⟨inTB 72 (by decide +kernel) rfl, inTB 1025 (by decide +kernel) rfl, ⟨by decide, by decide, by decide +kernel⟩, by decide⟩, inTB 1024 (by decide +kernel) rfl, inTB 25 (by decide +kernel) rfl⟩
theorem d_Mod_of_113 : decode M_Mod_of.2.1 113 = .ok (.ireturn, 1) := by decide +kernel
theorem d_Mod_of_114 : decode M_Mod_of.2.1 114 = .ok (.ldc 130, 2) := by decide +kernel
theorem d_Mod_of_116 : decode M_Mod_of.2.1 116 = .ok (.ireturn, 1) := by decide +kernel
theorem d_Mod_of_8 : decode M_Mod_of.2.1 8 = .ok (.ldc 130, 2) := by decide +kernel
theorem d_Mod_of_10 : decode M_Mod_of.2.1 10 = .ok (.ireturn, 1) := by decide +kernel
theorem c_Mod_act (X : Xn) (a ν : Nat → Nat) (σ : Nat → Nat → Int32) (τ : Nat → Int64) (hn6 : ν 0 ≤ 6) (hkd : ∀ i, i < 6 → ∃ K : Nat, K ≤ 6 ∧ σ 1 i = nI K) (p k x : Int32) : Does X 40 M_Mod_act [.ref (a 0), .int p, .int k, .int x] (MW X a ν σ τ) 0 0 (fun (vv : Option Value) (ww : va_W) => vv = some (.int (R_act (ν 0) (σ 1) (σ 2) (σ 37) p k x).1) ∧ ww = MW X a (u1 ν 36 (R_act (ν 0) (σ 1) (σ 2) (σ 37) p k x).2.1) (u2 σ 37 (R_act (ν 0) (σ 1) (σ 2) (σ 37) p k x).2.2) τ) := by
  generalize hQ : (fun (vv : Option Value) (ww : va_W) => vv = some (.int (R_act (ν 0) (σ 1) (σ 2) (σ 37) p k x).1) ∧ ww = MW X a (u1 ν 36 (R_act (ν 0) (σ 1) (σ 2) (σ 37) p k x).2.1) (u2 σ 37 (R_act (ν 0) (σ 1) (σ 2) (σ 37) p k x).2.2) τ) = Q
  refine Does.go rfl (Nat.le_of_ble_eq_true rfl) [some (.ref (a 0)), some (.int p), some (.int k), some (.int x), none] 1 rfl ?_
  refine r_aload_n rfl 1 rfl d_Mod_act_0 ?_
  refine r_iconst (nI 0) rfl 2 rfl d_Mod_act_1 ?_
  refine r_putf (w2 := MW X a (u1 ν 36 0) σ τ) pf_Mod_326 0 rfl (rfl) rfl (Nat.le_of_ble_eq_true rfl) rfl 5 rfl d_Mod_act_2 ?_
  refine Runs.cast (w' := MW X a (u1 ν 36 ((0, σ 37) : Trc).1) (u2 σ 37 ((0, σ 37) : Trc).2) τ) ?_ rfl rfl (by rw [u2_self])
  refine r_aload_n rfl 6 rfl d_Mod_act_5 ?_
  refine r_iload_n rfl 7 rfl d_Mod_act_6 ?_
  refine r_callVA1 (st2 := [.int (bI (isB (ν 0) p))]) (w2 := MW X a (u1 ν 36 ((0, σ 37) : Trc).1) (u2 σ 37 ((0, σ 37) : Trc).2) τ) lk_Mod_isOne ln_Mod_118 (c_Mod_isOne X a (u1 ν 36 ((0, σ 37) : Trc).1) (u2 σ 37 ((0, σ 37) : Trc).2) τ p) (by first | decide | omega) rfl rfl (Nat.le_of_ble_eq_true rfl) (Nat.le_of_ble_eq_true rfl) (Nat.le_of_ble_eq_true rfl) 0 rfl rfl rfl rfl 10 rfl d_Mod_act_7 ?_
  refine r_if_eqB 13 22 rfl rfl d_Mod_act_10 (fun h10 => ?_) (fun h10 => ?_)
  · refine r_iconst (nI 0) rfl 23 rfl d_Mod_act_22 ?_
    exact r_iret rfl (Nat.zero_le _) (Nat.zero_le _) d_Mod_act_23 (by rw [← hQ]; rw [show R_act (ν 0) (σ 1) (σ 2) (σ 37) p k x = (nI 0, ((0, σ 37) : Trc)) from by simp [R_act, h10]]; exact ⟨rfl, rfl⟩)
  · obtain ⟨pN, hpN, rfl⟩ := isB_t hn6 h10
    have epN : cn (nI pN) = pN := cn_nI (by omega)
    have mpN : ¬ nI pN = -1 := m1n (by omega)
    refine r_iload_n rfl 14 rfl d_Mod_act_13 ?_
    refine r_iconst (nI 0) rfl 15 rfl d_Mod_act_14 ?_
    refine r_iconst (nI 2) rfl 16 rfl d_Mod_act_15 ?_
    refine r_callS1 (st2 := [.int (bI (inR k (nI 0) (nI 2)))]) (w2 := MW X a (u1 ν 36 ((0, σ 37) : Trc).1) (u2 σ 37 ((0, σ 37) : Trc).2) τ) lk_Mod_within ln_Mod_114 (c_Mod_within X k (nI 0) (nI 2)) (by first | decide | omega) rfl rfl (Nat.le_of_ble_eq_true rfl) (Nat.le_of_ble_eq_true rfl) (Nat.le_of_ble_eq_true rfl) [] rfl rfl rfl rfl rfl 19 rfl d_Mod_act_16 ?_
    refine r_if_neB 22 24 rfl rfl d_Mod_act_19 (fun h19 => ?_) (fun h19 => ?_)
    · obtain ⟨kN, hkN, rfl⟩ := inR_t (by decide) h19
      have ekN : cn (nI kN) = kN := cn_nI (by omega)
      have mkN : ¬ nI kN = -1 := m1n (by omega)
      refine r_aload_n rfl 25 rfl d_Mod_act_24 ?_
      refine r_getf (v := .ref (a 1)) gf_Mod_9 0 rfl rfl 28 rfl d_Mod_act_25 ?_
      refine r_iload_n rfl 29 rfl d_Mod_act_28 ?_
      refine r_iald 1 rfl pN rfl (by omega) (by omega) 30 rfl d_Mod_act_29 ?_
      obtain ⟨K, hK6, hK⟩ := hkd pN (by omega)
      refine r_topi (nI K) hK ?_
      refine r_istore (ls2 := [some (.ref (a 0)), some (.int (nI pN)), some (.int (nI kN)), some (.int x), some (.int (nI K))]) 32 rfl d_Mod_act_30 (by decide) rfl rfl ?_
      refine r_iload_n rfl 33 rfl d_Mod_act_32 ?_
      refine r_if_neN kN (by omega) 36 47 rfl rfl d_Mod_act_33 (fun h33 => ?_) (fun h33 => ?_)
      · refine r_iload_n rfl 48 rfl d_Mod_act_47 ?_
        refine r_iconst (nI 1) rfl 49 rfl d_Mod_act_48 ?_
        refine r_icmp_neN kN 1 (by omega) (by omega) 52 63 rfl rfl d_Mod_act_49 (fun h49 => ?_) (fun h49 => ?_)
        · refine r_aload_n rfl 64 rfl d_Mod_act_63 ?_
          refine r_iload_n rfl 65 rfl d_Mod_act_64 ?_
          refine r_iload rfl 67 rfl d_Mod_act_65 ?_
          refine r_iload_n rfl 68 rfl d_Mod_act_67 ?_
          refine r_callVA1 (st2 := [.int ((te pN K (σ 2 pN) 7 K x ((0, σ 37) : Trc)).1)]) (w2 := MW X a (u1 ν 36 ((te pN K (σ 2 pN) 7 K x ((0, σ 37) : Trc)).2).1) (u2 σ 37 ((te pN K (σ 2 pN) 7 K x ((0, σ 37) : Trc)).2).2) τ) lk_Mod_tells ln_Mod_342 (c_Mod_tells X a ν σ τ pN (σ 2 pN) (by omega) rfl K hK hK6 7 K x ((0, σ 37) : Trc) hK6 (by omega) (by show (0 : Nat) + _ < 100000; omega)) (by first | decide | omega) rfl rfl (Nat.le_of_ble_eq_true rfl) (Nat.le_of_ble_eq_true rfl) (Nat.le_of_ble_eq_true rfl) 0 rfl rfl rfl rfl 71 rfl d_Mod_act_68 ?_
          exact r_iret rfl (Nat.zero_le _) (Nat.zero_le _) d_Mod_act_71 (by rw [← hQ]; rw [show R_act (ν 0) (σ 1) (σ 2) (σ 37) (nI pN) (nI kN) x = te pN K (σ 2 pN) 7 K x ((0, σ 37) : Trc) from by unfold R_act; rw [if_pos ⟨h10, h19⟩, ekN, epN, hK, cn_nI (show K < 2 ^ 31 by omega), if_neg h33, if_neg h49]]; exact ⟨rfl, rfl⟩)
        · refine r_aload_n rfl 53 rfl d_Mod_act_52 ?_
          refine r_iload_n rfl 54 rfl d_Mod_act_53 ?_
          refine r_iload rfl 56 rfl d_Mod_act_54 ?_
          refine r_iload_n rfl 57 rfl d_Mod_act_56 ?_
          refine r_callVA1 (st2 := [.int ((le pN K (σ 2 pN) 7 K x ((0, σ 37) : Trc)).1)]) (w2 := MW X a (u1 ν 36 ((le pN K (σ 2 pN) 7 K x ((0, σ 37) : Trc)).2).1) (u2 σ 37 ((le pN K (σ 2 pN) 7 K x ((0, σ 37) : Trc)).2).2) τ) lk_Mod_lets ln_Mod_339 (c_Mod_lets X a ν σ τ pN (σ 2 pN) (by omega) rfl K hK hK6 7 K x ((0, σ 37) : Trc) hK6 (by omega) (by show (0 : Nat) + _ < 100000; omega)) (by first | decide | omega) rfl rfl (Nat.le_of_ble_eq_true rfl) (Nat.le_of_ble_eq_true rfl) (Nat.le_of_ble_eq_true rfl) 0 rfl rfl rfl rfl 60 rfl d_Mod_act_57 ?_
          refine r_goto 71 rfl d_Mod_act_60 ?_
          exact r_iret rfl (Nat.zero_le _) (Nat.zero_le _) d_Mod_act_71 (by rw [← hQ]; rw [show R_act (ν 0) (σ 1) (σ 2) (σ 37) (nI pN) (nI kN) x = le pN K (σ 2 pN) 7 K x ((0, σ 37) : Trc) from by unfold R_act; rw [if_pos ⟨h10, h19⟩, ekN, epN, hK, cn_nI (show K < 2 ^ 31 by omega), if_neg h33, if_pos h49]]; exact ⟨rfl, rfl⟩)
      · refine r_aload_n rfl 37 rfl d_Mod_act_36 ?_
        refine r_iload_n rfl 38 rfl d_Mod_act_37 ?_
        refine r_iload rfl 40 rfl d_Mod_act_38 ?_
        refine r_iload_n rfl 41 rfl d_Mod_act_40 ?_
        refine r_callVA1 (st2 := [.int ((gr pN (σ 2 pN) 7 K x ((0, σ 37) : Trc)).1)]) (w2 := MW X a (u1 ν 36 ((gr pN (σ 2 pN) 7 K x ((0, σ 37) : Trc)).2).1) (u2 σ 37 ((gr pN (σ 2 pN) 7 K x ((0, σ 37) : Trc)).2).2) τ) lk_Mod_grips ln_Mod_332 (c_Mod_grips X a ν σ τ pN (σ 2 pN) (by omega) rfl 7 K x ((0, σ 37) : Trc) hK6 (by omega) (by show (0 : Nat) + _ < 100000; omega)) (by first | decide | omega) rfl rfl (Nat.le_of_ble_eq_true rfl) (Nat.le_of_ble_eq_true rfl) (Nat.le_of_ble_eq_true rfl) 0 rfl rfl rfl rfl 44 rfl d_Mod_act_41 ?_
        refine r_goto 71 rfl d_Mod_act_44 ?_
        exact r_iret rfl (Nat.zero_le _) (Nat.zero_le _) d_Mod_act_71 (by rw [← hQ]; rw [show R_act (ν 0) (σ 1) (σ 2) (σ 37) (nI pN) (nI kN) x = gr pN (σ 2 pN) 7 K x ((0, σ 37) : Trc) from by unfold R_act; rw [if_pos ⟨h10, h19⟩, ekN, epN, hK, cn_nI (show K < 2 ^ 31 by omega), if_pos h33]]; exact ⟨rfl, rfl⟩)
    · refine r_iconst (nI 0) rfl 23 rfl d_Mod_act_22 ?_
      exact r_iret rfl (Nat.zero_le _) (Nat.zero_le _) d_Mod_act_23 (by rw [← hQ]; rw [show R_act (ν 0) (σ 1) (σ 2) (σ 37) (nI pN) k x = (nI 0, ((0, σ 37) : Trc)) from by simp [R_act, h10, epN, mpN, h19]]; exact ⟨rfl, rfl⟩)
theorem c_Mod_trace (X : Xn) (a ν : Nat → Nat) (σ : Nat → Nat → Int32) (τ : Nat → Int64) (ht : ν 36 < 100000) (i : Int32) : Does X 3 M_Mod_trace [.ref (a 0), .int i] (MW X a ν σ τ) 0 0 (fun (vv : Option Value) (ww : va_W) => vv = some (.int (R_trace (ν 36) (σ 37) i)) ∧ ww = MW X a ν σ τ) := by
  generalize hQ : (fun (vv : Option Value) (ww : va_W) => vv = some (.int (R_trace (ν 36) (σ 37) i)) ∧ ww = MW X a ν σ τ) = Q
  refine Does.go rfl (Nat.le_of_ble_eq_true rfl) [some (.ref (a 0)), some (.int i)] 0 rfl ?_
  refine r_iload_n rfl 1 rfl d_Mod_trace_0 ?_
  refine r_iconst (nI 0) rfl 2 rfl d_Mod_trace_1 ?_
  refine r_bipush (nI 20) rfl 4 rfl d_Mod_trace_2 ?_
  refine r_aload_n rfl 5 rfl d_Mod_trace_4 ?_
  refine r_getf (v := .int (nI (ν 36))) gf_Mod_326 0 rfl rfl 8 rfl d_Mod_trace_5 ?_
  refine r_mmin (inTB 1187 (by decide +kernel) rfl) (by first | decide | omega) (Nat.le_of_ble_eq_true rfl) (Nat.le_of_ble_eq_true rfl) (Nat.le_of_ble_eq_true rfl) 11 rfl d_Mod_trace_8 ?_
  refine r_topi (nI (mn20 (ν 36))) (mn20_eq (by omega)) ?_
  refine r_iconst (nI 1) rfl 12 rfl d_Mod_trace_11 ?_
  refine r_isub 13 rfl d_Mod_trace_12 ?_
  refine r_callS1 (st2 := [.int (bI (inR i (nI 0) ((nI (mn20 (ν 36))) - (nI 1))))]) (w2 := MW X a ν σ τ) lk_Mod_within ln_Mod_114 (c_Mod_within X i (nI 0) ((nI (mn20 (ν 36))) - (nI 1))) (by first | decide | omega) rfl rfl (Nat.le_of_ble_eq_true rfl) (Nat.le_of_ble_eq_true rfl) (Nat.le_of_ble_eq_true rfl) [] rfl rfl rfl rfl rfl 16 rfl d_Mod_trace_13 ?_
  refine r_if_eqB 19 28 rfl rfl d_Mod_trace_16 (fun h16 => ?_) (fun h16 => ?_)
  · refine r_iconst ((-1)) rfl 29 rfl d_Mod_trace_28 ?_
    exact r_iret rfl (Nat.zero_le _) (Nat.zero_le _) d_Mod_trace_29 (by rw [← hQ]; exact ⟨by unfold R_trace; rw [if_neg (by rw [show isB (mn20 (ν 36)) i = false from h16]; decide)], rfl⟩)
  · have h20 : mn20 (ν 36) ≤ 20 := by unfold mn20; split <;> omega
    obtain ⟨iN, hiN, rfl⟩ := isB_tG (n := mn20 (ν 36)) (by omega) h16
    have eiN : cn (nI iN) = iN := cn_nI (by omega)
    refine r_aload_n rfl 20 rfl d_Mod_trace_19 ?_
    refine r_getf (v := .ref (a 37)) gf_Mod_82 0 rfl rfl 23 rfl d_Mod_trace_20 ?_
    refine r_iload_n rfl 24 rfl d_Mod_trace_23 ?_
    refine r_iald 24 rfl iN rfl (by omega) (by omega) 25 rfl d_Mod_trace_24 ?_
    refine r_goto 29 rfl d_Mod_trace_25 ?_
    exact r_iret rfl (Nat.zero_le _) (Nat.zero_le _) d_Mod_trace_29 (by rw [← hQ]; exact ⟨by unfold R_trace; rw [if_pos (show isB (mn20 (ν 36)) (nI iN) = true from h16), eiN], rfl⟩)
theorem c_Mod_count (X : Xn) (a ν : Nat → Nat) (σ : Nat → Nat → Int32) (τ : Nat → Int64) (w : Int32) : Does X 1 M_Mod_count [.ref (a 0), .int w] (MW X a ν σ τ) 0 0 (fun (vv : Option Value) (ww : va_W) => vv = some (.int (R_count ν w)) ∧ ww = MW X a ν σ τ) := by
  generalize hQ : (fun (vv : Option Value) (ww : va_W) => vv = some (.int (R_count ν w)) ∧ ww = MW X a ν σ τ) = Q
  refine Does.go rfl (Nat.le_of_ble_eq_true rfl) [some (.ref (a 0)), some (.int w)] 0 rfl ?_
  refine r_iload_n rfl 1 rfl d_Mod_count_0 ?_
  by_cases h1_0 : w = 0
  · refine r_tableIn 44 d_Mod_count_1 (by rw [h1_0]; decide) (by rw [h1_0]; decide) (by rw [h1_0]; try rfl) rfl ?_
    refine r_aload_n rfl 45 rfl d_Mod_count_44 ?_
    refine r_getf (v := .int (nI (ν 0))) gf_Mod_111 0 rfl rfl 48 rfl d_Mod_count_45 ?_
    exact r_iret rfl (Nat.zero_le _) (Nat.zero_le _) d_Mod_count_48 (by rw [← hQ]; exact ⟨by simp [R_count, h1_0], by first | (simp [R_count, h1_0, u2_self, u1_self]; done) | (simp [R_count, h1_0, u2_self, u1_self]; rw [← h1_0, u1_self])⟩)
  by_cases h1_1 : w = 1
  · refine r_tableIn 49 d_Mod_count_1 (by rw [h1_1]; decide) (by rw [h1_1]; decide) (by rw [h1_1]; try rfl) rfl ?_
    refine r_aload_n rfl 50 rfl d_Mod_count_49 ?_
    refine r_getf (v := .int (nI (ν 13))) gf_Mod_216 0 rfl rfl 53 rfl d_Mod_count_50 ?_
    exact r_iret rfl (Nat.zero_le _) (Nat.zero_le _) d_Mod_count_53 (by rw [← hQ]; exact ⟨by simp [R_count, h1_1], by first | (simp [R_count, h1_1, u2_self, u1_self]; done) | (simp [R_count, h1_1, u2_self, u1_self]; rw [← h1_1, u1_self])⟩)
  by_cases h1_2 : w = 2
  · refine r_tableIn 54 d_Mod_count_1 (by rw [h1_2]; decide) (by rw [h1_2]; decide) (by rw [h1_2]; try rfl) rfl ?_
    refine r_aload_n rfl 55 rfl d_Mod_count_54 ?_
    refine r_getf (v := .int (nI (ν 23))) gf_Mod_297 0 rfl rfl 58 rfl d_Mod_count_55 ?_
    exact r_iret rfl (Nat.zero_le _) (Nat.zero_le _) d_Mod_count_58 (by rw [← hQ]; exact ⟨by simp [R_count, h1_2], by first | (simp [R_count, h1_2, u2_self, u1_self]; done) | (simp [R_count, h1_2, u2_self, u1_self]; rw [← h1_2, u1_self])⟩)
  by_cases h1_3 : w = 3
  · refine r_tableIn 59 d_Mod_count_1 (by rw [h1_3]; decide) (by rw [h1_3]; decide) (by rw [h1_3]; try rfl) rfl ?_
    refine r_aload_n rfl 60 rfl d_Mod_count_59 ?_
    refine r_getf (v := .int (nI (ν 29))) gf_Mod_312 0 rfl rfl 63 rfl d_Mod_count_60 ?_
    exact r_iret rfl (Nat.zero_le _) (Nat.zero_le _) d_Mod_count_63 (by rw [← hQ]; exact ⟨by simp [R_count, h1_3], by first | (simp [R_count, h1_3, u2_self, u1_self]; done) | (simp [R_count, h1_3, u2_self, u1_self]; rw [← h1_3, u1_self])⟩)
  by_cases h1_4 : w = 4
  · refine r_tableIn 64 d_Mod_count_1 (by rw [h1_4]; decide) (by rw [h1_4]; decide) (by rw [h1_4]; try rfl) rfl ?_
    refine r_aload_n rfl 65 rfl d_Mod_count_64 ?_
    refine r_getf (v := .int (nI (ν 32))) gf_Mod_319 0 rfl rfl 68 rfl d_Mod_count_65 ?_
    exact r_iret rfl (Nat.zero_le _) (Nat.zero_le _) d_Mod_count_68 (by rw [← hQ]; exact ⟨by simp [R_count, h1_4], by first | (simp [R_count, h1_4, u2_self, u1_self]; done) | (simp [R_count, h1_4, u2_self, u1_self]; rw [← h1_4, u1_self])⟩)
  by_cases h1_5 : w = 5
  · refine r_tableIn 69 d_Mod_count_1 (by rw [h1_5]; decide) (by rw [h1_5]; decide) (by rw [h1_5]; try rfl) rfl ?_
    refine r_aload_n rfl 70 rfl d_Mod_count_69 ?_
    refine r_getf (v := .int (nI (ν 7))) gf_Mod_144 0 rfl rfl 73 rfl d_Mod_count_70 ?_
    exact r_iret rfl (Nat.zero_le _) (Nat.zero_le _) d_Mod_count_73 (by rw [← hQ]; exact ⟨by simp [R_count, h1_5], by first | (simp [R_count, h1_5, u2_self, u1_self]; done) | (simp [R_count, h1_5, u2_self, u1_self]; rw [← h1_5, u1_self])⟩)
  by_cases h1_6 : w = 6
  · refine r_tableIn 74 d_Mod_count_1 (by rw [h1_6]; decide) (by rw [h1_6]; decide) (by rw [h1_6]; try rfl) rfl ?_
    refine r_aload_n rfl 75 rfl d_Mod_count_74 ?_
    refine r_getf (v := .int (nI (ν 36))) gf_Mod_326 0 rfl rfl 78 rfl d_Mod_count_75 ?_
    exact r_iret rfl (Nat.zero_le _) (Nat.zero_le _) d_Mod_count_78 (by rw [← hQ]; exact ⟨by simp [R_count, h1_6], by first | (simp [R_count, h1_6, u2_self, u1_self]; done) | (simp [R_count, h1_6, u2_self, u1_self]; rw [← h1_6, u1_self])⟩)
  have t1_0 : ¬ (w).toInt = 0 := lv_neT h1_0 (by decide)
  have t1_1 : ¬ (w).toInt = 1 := lv_neT h1_1 (by decide)
  have t1_2 : ¬ (w).toInt = 2 := lv_neT h1_2 (by decide)
  have t1_3 : ¬ (w).toInt = 3 := lv_neT h1_3 (by decide)
  have t1_4 : ¬ (w).toInt = 4 := lv_neT h1_4 (by decide)
  have t1_5 : ¬ (w).toInt = 5 := lv_neT h1_5 (by decide)
  have t1_6 : ¬ (w).toInt = 6 := lv_neT h1_6 (by decide)
  refine r_tableOut 79 d_Mod_count_1 (by omega) rfl ?_
  refine r_bipush ((-2)) rfl 81 rfl d_Mod_count_79 ?_
  exact r_iret rfl (Nat.zero_le _) (Nat.zero_le _) d_Mod_count_81 (by rw [← hQ]; exact ⟨by simp [R_count, h1_0, h1_1, h1_2, h1_3, h1_4, h1_5, h1_6], by first | (simp [R_count, h1_0, h1_1, h1_2, h1_3, h1_4, h1_5, h1_6, u2_self, u1_self]; done) | (simp [R_count, h1_0, h1_1, h1_2, h1_3, h1_4, h1_5, h1_6, u2_self, u1_self]; rw [← h1_6, u1_self])⟩)
theorem c_Mod_image (X : Xn) (a ν : Nat → Nat) (σ : Nat → Nat → Int32) (τ : Nat → Int64)  : Does X 2 M_Mod_image [.ref (a 0)] (MW X a ν σ τ) 0 0 (fun (vv : Option Value) (ww : va_W) => vv = some (.int (nI (ν 0))) ∧ ww = MW X a ν (u2 (u2 σ 38 (upd (σ 38) 0 (nI 1))) 39 (keepF ν (u2 σ 38 (upd (σ 38) 0 (nI 1))) (σ 39))) τ) := by
  generalize hQ : (fun (vv : Option Value) (ww : va_W) => vv = some (.int (nI (ν 0))) ∧ ww = MW X a ν (u2 (u2 σ 38 (upd (σ 38) 0 (nI 1))) 39 (keepF ν (u2 σ 38 (upd (σ 38) 0 (nI 1))) (σ 39))) τ) = Q
  refine Does.go rfl (Nat.le_of_ble_eq_true rfl) [some (.ref (a 0))] 0 rfl ?_
  refine r_aload_n rfl 1 rfl d_Mod_image_0 ?_
  refine r_iconst (nI 1) rfl 2 rfl d_Mod_image_1 ?_
  refine r_putf (w2 := MW X a ν (u2 σ 38 (upd (σ 38) 0 (nI 1))) τ) pf_Mod_322 0 rfl (rfl) rfl (Nat.le_of_ble_eq_true rfl) rfl 5 rfl d_Mod_image_2 ?_
  refine r_aload_n rfl 6 rfl d_Mod_image_5 ?_
  refine r_aload_n rfl 7 rfl d_Mod_image_6 ?_
  refine r_getf (v := .ref (a 39)) gf_Mod_85 0 rfl rfl 10 rfl d_Mod_image_7 ?_
  refine r_callVA1 (st2 := []) (w2 := MW X a ν (u2 (u2 σ 38 (upd (σ 38) 0 (nI 1))) 39 (keepF ν (u2 σ 38 (upd (σ 38) 0 (nI 1))) (σ 39))) τ) lk_Mod_keep ln_Mod_254 (c_Mod_keep39 X a ν (u2 σ 38 (upd (σ 38) 0 (nI 1))) τ) (by first | decide | omega) rfl rfl (Nat.le_of_ble_eq_true rfl) (Nat.le_of_ble_eq_true rfl) (Nat.le_of_ble_eq_true rfl) 0 rfl rfl rfl rfl 13 rfl d_Mod_image_10 ?_
  refine r_aload_n rfl 14 rfl d_Mod_image_13 ?_
  refine r_getf (v := .int (nI (ν 0))) gf_Mod_111 0 rfl rfl 17 rfl d_Mod_image_14 ?_
  exact r_iret rfl (Nat.zero_le _) (Nat.zero_le _) d_Mod_image_17 (by rw [← hQ]; exact ⟨rfl, rfl⟩)
theorem c_Mod_undo0 (X : Xn) (a ν : Nat → Nat) (σ : Nat → Nat → Int32) (τ : Nat → Int64) (him : σ 38 0 = nI 0) : Does X 2 M_Mod_undo [.ref (a 0)] (MW X a ν σ τ) 0 0 (fun (vv : Option Value) (ww : va_W) => vv = some (.int (-3)) ∧ ww = MW X a ν σ τ) := by
  generalize hQ : (fun (vv : Option Value) (ww : va_W) => vv = some (.int (-3)) ∧ ww = MW X a ν σ τ) = Q
  refine Does.go rfl (Nat.le_of_ble_eq_true rfl) [some (.ref (a 0))] 0 rfl ?_
  refine r_aload_n rfl 1 rfl d_Mod_undo_0 ?_
  refine r_getf (v := .int (σ 38 0)) gf_Mod_322 0 rfl rfl 4 rfl d_Mod_undo_1 ?_
  refine r_topi (nI 0) him ?_
  refine r_if_neN_f 0 (by omega) 7 rfl 10 rfl d_Mod_undo_4 (rfl) ?_
  refine r_bipush ((-3)) rfl 9 rfl d_Mod_undo_7 ?_
  exact r_iret rfl (Nat.zero_le _) (Nat.zero_le _) d_Mod_undo_9 (by rw [← hQ]; exact ⟨rfl, rfl⟩)
theorem c_Mod_undo1 (X : Xn) (a ν : Nat → Nat) (σ : Nat → Nat → Int32) (τ : Nat → Int64) (him : σ 38 0 = nI 1) (n0 d0 s0 p0 b0 : Nat) (e147 : σ 39 147 = nI n0) (e148 : σ 39 148 = nI d0) (e149 : σ 39 149 = nI s0) (e150 : σ 39 150 = nI p0) (e151 : σ 39 151 = nI b0) : Does X 2 M_Mod_undo [.ref (a 0)] (MW X a ν σ τ) 0 0 (fun (vv : Option Value) (ww : va_W) => vv = some (.int (nI n0)) ∧ ww = MW X a (u1 (u1 (u1 (u1 (u1 ν 0 n0) 6 d0) 23 s0) 29 p0) 32 b0) (againF σ (σ 39)) τ) := by
  generalize hQ : (fun (vv : Option Value) (ww : va_W) => vv = some (.int (nI n0)) ∧ ww = MW X a (u1 (u1 (u1 (u1 (u1 ν 0 n0) 6 d0) 23 s0) 29 p0) 32 b0) (againF σ (σ 39)) τ) = Q
  refine Does.go rfl (Nat.le_of_ble_eq_true rfl) [some (.ref (a 0))] 0 rfl ?_
  refine r_aload_n rfl 1 rfl d_Mod_undo_0 ?_
  refine r_getf (v := .int (σ 38 0)) gf_Mod_322 0 rfl rfl 4 rfl d_Mod_undo_1 ?_
  refine r_topi (nI 1) him ?_
  refine r_if_neN_t 1 (by omega) 10 rfl d_Mod_undo_4 (by decide) ?_
  refine r_aload_n rfl 11 rfl d_Mod_undo_10 ?_
  refine r_aload_n rfl 12 rfl d_Mod_undo_11 ?_
  refine r_getf (v := .ref (a 39)) gf_Mod_85 0 rfl rfl 15 rfl d_Mod_undo_12 ?_
  refine r_callVA1 (st2 := []) (w2 := MW X a (u1 (u1 (u1 (u1 (u1 ν 0 n0) 6 d0) 23 s0) 29 p0) 32 b0) (againF σ (σ 39)) τ) lk_Mod_again ln_Mod_259 (c_Mod_again39 X a ν σ τ n0 d0 s0 p0 b0 e147 e148 e149 e150 e151) (by first | decide | omega) rfl rfl (Nat.le_of_ble_eq_true rfl) (Nat.le_of_ble_eq_true rfl) (Nat.le_of_ble_eq_true rfl) 0 rfl rfl rfl rfl 18 rfl d_Mod_undo_15 ?_
  refine r_aload_n rfl 19 rfl d_Mod_undo_18 ?_
  refine r_getf (v := .int (nI n0)) gf_Mod_111 0 rfl rfl 22 rfl d_Mod_undo_19 ?_
  exact r_iret rfl (Nat.zero_le _) (Nat.zero_le _) d_Mod_undo_22 (by rw [← hQ]; exact ⟨rfl, rfl⟩)
theorem c_Mod_taken (X : Xn) (a ν : Nat → Nat) (σ : Nat → Nat → Int32) (τ : Nat → Int64) (hn6 : ν 0 ≤ 6) (hkd : ∀ i, i < 6 → ∃ K : Nat, K ≤ 6 ∧ σ 1 i = nI K) (p k : Int32) : Does X 4 M_Mod_taken [.ref (a 0), .int p, .int k] (MW X a ν σ τ) 0 0 (fun (vv : Option Value) (ww : va_W) => vv = some (.int (R_taken (ν 0) (σ 1) p k)) ∧ ww = MW X a ν σ τ) := by
  generalize hQ : (fun (vv : Option Value) (ww : va_W) => vv = some (.int (R_taken (ν 0) (σ 1) p k)) ∧ ww = MW X a ν σ τ) = Q
  refine Does.go rfl (Nat.le_of_ble_eq_true rfl) [some (.ref (a 0)), some (.int p), some (.int k), none] 1 rfl ?_
  refine r_iload_n rfl 1 rfl d_Mod_taken_0 ?_
  refine r_iconst (nI 0) rfl 2 rfl d_Mod_taken_1 ?_
  refine r_bipush (nI 6) rfl 4 rfl d_Mod_taken_2 ?_
  refine r_callS1 (st2 := [.int (bI (inR k (nI 0) (nI 6)))]) (w2 := MW X a ν σ τ) lk_Mod_within ln_Mod_114 (c_Mod_within X k (nI 0) (nI 6)) (by first | decide | omega) rfl rfl (Nat.le_of_ble_eq_true rfl) (Nat.le_of_ble_eq_true rfl) (Nat.le_of_ble_eq_true rfl) [] rfl rfl rfl rfl rfl 7 rfl d_Mod_taken_4 ?_
  refine r_if_neB 10 13 rfl rfl d_Mod_taken_7 (fun h7 => ?_) (fun h7 => ?_)
  · obtain ⟨kN, hkN, rfl⟩ := inR_t (by decide) h7
    have ekN : cn (nI kN) = kN := cn_nI (by omega)
    have mkN : ¬ nI kN = -1 := m1n (by omega)
    refine r_aload_n rfl 14 rfl d_Mod_taken_13 ?_
    refine r_iload_n rfl 15 rfl d_Mod_taken_14 ?_
    refine r_callVA1 (st2 := [.int (bI (isB (ν 0) p))]) (w2 := MW X a ν σ τ) lk_Mod_isOne ln_Mod_118 (c_Mod_isOne X a ν σ τ p) (by first | decide | omega) rfl rfl (Nat.le_of_ble_eq_true rfl) (Nat.le_of_ble_eq_true rfl) (Nat.le_of_ble_eq_true rfl) 0 rfl rfl rfl rfl 18 rfl d_Mod_taken_15 ?_
    refine r_if_neB 21 24 rfl rfl d_Mod_taken_18 (fun h18 => ?_) (fun h18 => ?_)
    · obtain ⟨pN, hpN, rfl⟩ := isB_t hn6 h18
      have epN : cn (nI pN) = pN := cn_nI (by omega)
      have mpN : ¬ nI pN = -1 := m1n (by omega)
      refine r_aload_n rfl 25 rfl d_Mod_taken_24 ?_
      refine r_getf (v := .ref (a 1)) gf_Mod_9 0 rfl rfl 28 rfl d_Mod_taken_25 ?_
      refine r_iload_n rfl 29 rfl d_Mod_taken_28 ?_
      refine r_iald 1 rfl pN rfl (by omega) (by omega) 30 rfl d_Mod_taken_29 ?_
      obtain ⟨K, hK6, hK⟩ := hkd pN (by omega)
      refine r_topi (nI K) hK ?_
      refine r_istore_n (ls2 := [some (.ref (a 0)), some (.int (nI pN)), some (.int (nI kN)), some (.int (nI K))]) 31 rfl d_Mod_taken_30 (by decide) rfl rfl ?_
      have L31_1 : ∀ (f : Nat) (u : Nat), (u ≤ 6) → (cls u kN = cls K kN) → u < f → Runs X 4 M_Mod_taken 0 0 Q 31 [some (.ref (a 0)), some (.int (nI pN)), some (.int (nI kN)), some (.int (nI u))] [] 0 0 (MW X a ν σ τ) := by
        intro f
        induction f with
        | zero => intro u hu hc hmu; exact absurd hmu (Nat.not_lt_zero _)
        | succ f ih2 =>
          intro u hu hc hmu
          refine r_iload_n rfl 32 rfl d_Mod_taken_31 ?_
          refine r_iload_n rfl 33 rfl d_Mod_taken_32 ?_
          refine r_icmp_eqN u kN (by omega) (by omega) 36 48 rfl rfl d_Mod_taken_33 (fun h33 => ?_) (fun h33 => ?_)
          · refine r_iload_n rfl 49 rfl d_Mod_taken_48 ?_
            refine r_iload_n rfl 50 rfl d_Mod_taken_49 ?_
            refine r_icmp_neN u kN (by omega) (by omega) 53 62 rfl rfl d_Mod_taken_50 (fun h50 => ?_) (fun h50 => ?_)
            · have hcl : cls K kN = false := by rw [← hc, cls_0 ⟨u, by omega⟩ ⟨kN, by omega⟩ (by first | exact Or.inl h33 | exact Or.inr (by simp only; omega))]; simp [h50]
              refine r_bipush ((-12)) rfl 64 rfl d_Mod_taken_62 ?_
              exact r_iret rfl (Nat.zero_le _) (Nat.zero_le _) d_Mod_taken_64 (by rw [← hQ]; exact ⟨by simp [R_taken, h7, ekN, mkN, h18, epN, mpN, hK, cn_nI (show K < 2 ^ 31 by omega), hcl], rfl⟩)
            · have hcl : cls K kN = true := by rw [← hc, cls_0 ⟨u, by omega⟩ ⟨kN, by omega⟩ (by first | exact Or.inl h33 | exact Or.inr (by simp only; omega))]; simp [h50]
              refine r_aload_n rfl 54 rfl d_Mod_taken_53 ?_
              refine r_getf (v := .ref (a 1)) gf_Mod_9 0 rfl rfl 57 rfl d_Mod_taken_54 ?_
              refine r_iload_n rfl 58 rfl d_Mod_taken_57 ?_
              refine r_iald 1 rfl pN rfl (by omega) (by omega) 59 rfl d_Mod_taken_58 ?_
              refine r_goto 64 rfl d_Mod_taken_59 ?_
              exact r_iret rfl (Nat.zero_le _) (Nat.zero_le _) d_Mod_taken_64 (by rw [← hQ]; exact ⟨by simp [R_taken, h7, ekN, mkN, h18, epN, mpN, hK, cn_nI (show K < 2 ^ 31 by omega), hcl], rfl⟩)
          · refine r_iload_n rfl 37 rfl d_Mod_taken_36 ?_
            refine r_if_leN u (by omega) 40 48 rfl rfl d_Mod_taken_37 (fun h37 => ?_) (fun h37 => ?_)
            · have n37 := Nat.not_lt.mpr h37
              refine r_iload_n rfl 49 rfl d_Mod_taken_48 ?_
              refine r_iload_n rfl 50 rfl d_Mod_taken_49 ?_
              refine r_icmp_neN u kN (by omega) (by omega) 53 62 rfl rfl d_Mod_taken_50 (fun h50 => ?_) (fun h50 => ?_)
              · have hcl : cls K kN = false := by rw [← hc, cls_0 ⟨u, by omega⟩ ⟨kN, by omega⟩ (by first | exact Or.inl h33 | exact Or.inr (by simp only; omega))]; simp [h50]
                refine r_bipush ((-12)) rfl 64 rfl d_Mod_taken_62 ?_
                exact r_iret rfl (Nat.zero_le _) (Nat.zero_le _) d_Mod_taken_64 (by rw [← hQ]; exact ⟨by simp [R_taken, h7, ekN, mkN, h18, epN, mpN, n37, hK, cn_nI (show K < 2 ^ 31 by omega), hcl], rfl⟩)
              · have hcl : cls K kN = true := by rw [← hc, cls_0 ⟨u, by omega⟩ ⟨kN, by omega⟩ (by first | exact Or.inl h33 | exact Or.inr (by simp only; omega))]; simp [h50]
                refine r_aload_n rfl 54 rfl d_Mod_taken_53 ?_
                refine r_getf (v := .ref (a 1)) gf_Mod_9 0 rfl rfl 57 rfl d_Mod_taken_54 ?_
                refine r_iload_n rfl 58 rfl d_Mod_taken_57 ?_
                refine r_iald 1 rfl pN rfl (by omega) (by omega) 59 rfl d_Mod_taken_58 ?_
                refine r_goto 64 rfl d_Mod_taken_59 ?_
                exact r_iret rfl (Nat.zero_le _) (Nat.zero_le _) d_Mod_taken_64 (by rw [← hQ]; exact ⟨by simp [R_taken, h7, ekN, mkN, h18, epN, mpN, n37, hK, cn_nI (show K < 2 ^ 31 by omega), hcl], rfl⟩)
            · have n37 := Nat.not_le.mpr h37
              refine r_iload_n rfl 41 rfl d_Mod_taken_40 ?_
              refine r_callS1 (st2 := [.int (nI (abv u))]) (w2 := MW X a ν σ τ) lk_Mod_above ln_Mod_336 (c_Mod_above X u (by omega)) (by first | decide | omega) rfl rfl (Nat.le_of_ble_eq_true rfl) (Nat.le_of_ble_eq_true rfl) (Nat.le_of_ble_eq_true rfl) [] rfl rfl rfl rfl rfl 44 rfl d_Mod_taken_41 ?_
              refine r_istore_n (ls2 := [some (.ref (a 0)), some (.int (nI pN)), some (.int (nI kN)), some (.int (nI (abv u)))]) 45 rfl d_Mod_taken_44 (by decide) rfl rfl ?_
              refine r_goto 31 rfl d_Mod_taken_45 ?_
              exact ih2 (abv u) (by have := abv_lt ⟨u, by omega⟩ h37; simp only at this; omega) (by rw [← hc]; exact cls_up ⟨u, by omega⟩ ⟨kN, by omega⟩ h33 h37) (by have := abv_lt ⟨u, by omega⟩ h37; simp only at this; omega)
      exact L31_1 _ K (hK6) (rfl) (Nat.lt_succ_self _)
    · refine r_bipush ((-11)) rfl 23 rfl d_Mod_taken_21 ?_
      exact r_iret rfl (Nat.zero_le _) (Nat.zero_le _) d_Mod_taken_23 (by rw [← hQ]; exact ⟨by simp [R_taken, h7, ekN, mkN, h18], rfl⟩)
  · refine r_bipush ((-2)) rfl 12 rfl d_Mod_taken_10 ?_
    exact r_iret rfl (Nat.zero_le _) (Nat.zero_le _) d_Mod_taken_12 (by rw [← hQ]; exact ⟨by simp [R_taken, h7], rfl⟩)
theorem c_Mod_of (X : Xn) (a ν : Nat → Nat) (σ : Nat → Nat → Int32) (τ : Nat → Int64) (hn6 : ν 0 ≤ 6) (p w : Int32) : Does X 6 M_Mod_of [.ref (a 0), .int p, .int w] (MW X a ν σ τ) 0 0 (fun (vv : Option Value) (ww : va_W) => ∃ r : Int32, ofP (ν 0) (σ 1) (σ 2) (σ 3) (σ 5) p w r ∧ vv = some (.int r) ∧ ww = MW X a ν σ τ) := by
  generalize hQ : (fun (vv : Option Value) (ww : va_W) => ∃ r : Int32, ofP (ν 0) (σ 1) (σ 2) (σ 3) (σ 5) p w r ∧ vv = some (.int r) ∧ ww = MW X a ν σ τ) = Q
  refine Does.go rfl (Nat.le_of_ble_eq_true rfl) [some (.ref (a 0)), some (.int p), some (.int w)] 0 rfl ?_
  refine r_aload_n rfl 1 rfl d_Mod_of_0 ?_
  refine r_iload_n rfl 2 rfl d_Mod_of_1 ?_
  refine r_callVA1 (st2 := [.int (bI (isB (ν 0) p))]) (w2 := MW X a ν σ τ) lk_Mod_isOne ln_Mod_118 (c_Mod_isOne X a ν σ τ p) (by first | decide | omega) rfl rfl (Nat.le_of_ble_eq_true rfl) (Nat.le_of_ble_eq_true rfl) (Nat.le_of_ble_eq_true rfl) 0 rfl rfl rfl rfl 5 rfl d_Mod_of_2 ?_
  refine r_if_neB 8 11 rfl rfl d_Mod_of_5 (fun h5 => ?_) (fun h5 => ?_)
  · obtain ⟨pN, hpN, rfl⟩ := isB_t hn6 h5
    have epN : cn (nI pN) = pN := cn_nI (by omega)
    have mpN : ¬ nI pN = -1 := m1n (by omega)
    refine r_iload_n rfl 12 rfl d_Mod_of_11 ?_
    by_cases h12_0 : w = 0
    · refine r_tableIn 60 d_Mod_of_12 (by rw [h12_0]; decide) (by rw [h12_0]; decide) (by rw [h12_0]; try rfl) rfl ?_
      refine r_aload_n rfl 61 rfl d_Mod_of_60 ?_
      refine r_getf (v := .ref (a 1)) gf_Mod_9 0 rfl rfl 64 rfl d_Mod_of_61 ?_
      refine r_iload_n rfl 65 rfl d_Mod_of_64 ?_
      refine r_iald 1 rfl pN rfl (by omega) (by omega) 66 rfl d_Mod_of_65 ?_
      exact r_iret rfl (Nat.zero_le _) (Nat.zero_le _) d_Mod_of_66 (by rw [← hQ]; exact ⟨_, by simp [ofP, h5, epN, mpN, h12_0], rfl, rfl⟩)
    by_cases h12_1 : w = 1
    · refine r_tableIn 67 d_Mod_of_12 (by rw [h12_1]; decide) (by rw [h12_1]; decide) (by rw [h12_1]; try rfl) rfl ?_
      refine r_aload_n rfl 68 rfl d_Mod_of_67 ?_
      refine r_getf (v := .ref (a 2)) gf_Mod_15 0 rfl rfl 71 rfl d_Mod_of_68 ?_
      refine r_iload_n rfl 72 rfl d_Mod_of_71 ?_
      refine r_iald 2 rfl pN rfl (by omega) (by omega) 73 rfl d_Mod_of_72 ?_
      exact r_iret rfl (Nat.zero_le _) (Nat.zero_le _) d_Mod_of_73 (by rw [← hQ]; exact ⟨_, by simp [ofP, h5, epN, mpN, h12_1], rfl, rfl⟩)
    by_cases h12_2 : w = 2
    · refine r_tableIn 74 d_Mod_of_12 (by rw [h12_2]; decide) (by rw [h12_2]; decide) (by rw [h12_2]; try rfl) rfl ?_
      refine r_aload_n rfl 75 rfl d_Mod_of_74 ?_
      refine r_getf (v := .ref (a 3)) gf_Mod_18 0 rfl rfl 78 rfl d_Mod_of_75 ?_
      refine r_iload_n rfl 79 rfl d_Mod_of_78 ?_
      refine r_iald 3 rfl pN rfl (by omega) (by omega) 80 rfl d_Mod_of_79 ?_
      exact r_iret rfl (Nat.zero_le _) (Nat.zero_le _) d_Mod_of_80 (by rw [← hQ]; exact ⟨_, by simp [ofP, h5, epN, mpN, h12_2], rfl, rfl⟩)
    by_cases h12_3 : w = 3
    · refine r_tableIn 81 d_Mod_of_12 (by rw [h12_3]; decide) (by rw [h12_3]; decide) (by rw [h12_3]; try rfl) rfl ?_
      refine r_aload_n rfl 82 rfl d_Mod_of_81 ?_
      refine r_iload_n rfl 83 rfl d_Mod_of_82 ?_
      refine r_callVA1 (st2 := [.int (osum (σ 5) pN (ν 0))]) (w2 := MW X a ν σ τ) lk_Mod_owes ln_Mod_126 (c_Mod_owes X a ν σ τ (by first | omega | exact hn6) pN (by omega)) (by first | decide | omega) rfl rfl (Nat.le_of_ble_eq_true rfl) (Nat.le_of_ble_eq_true rfl) (Nat.le_of_ble_eq_true rfl) 0 rfl rfl rfl rfl 86 rfl d_Mod_of_83 ?_
      exact r_iret rfl (Nat.zero_le _) (Nat.zero_le _) d_Mod_of_86 (by rw [← hQ]; exact ⟨_, by simp [ofP, h5, epN, mpN, h12_3], rfl, rfl⟩)
    by_cases h12_4 : w = 4
    · refine r_tableIn 87 d_Mod_of_12 (by rw [h12_4]; decide) (by rw [h12_4]; decide) (by rw [h12_4]; try rfl) rfl ?_
      refine r_aload_n rfl 88 rfl d_Mod_of_87 ?_
      refine r_iload_n rfl 89 rfl d_Mod_of_88 ?_
      refine r_iconst (nI 0) rfl 90 rfl d_Mod_of_89 ?_
      refine r_callVA1 (st2 := [.int (dsum (σ 5) 0 pN (ν 0))]) (w2 := MW X a ν σ τ) lk_Mod_owed ln_Mod_122 (c_Mod_owed X a ν σ τ (by first | omega | exact hn6) pN 0 (by omega) (by first | omega | assumption)) (by first | decide | omega) rfl rfl (Nat.le_of_ble_eq_true rfl) (Nat.le_of_ble_eq_true rfl) (Nat.le_of_ble_eq_true rfl) 0 rfl rfl rfl rfl 93 rfl d_Mod_of_90 ?_
      exact r_iret rfl (Nat.zero_le _) (Nat.zero_le _) d_Mod_of_93 (by rw [← hQ]; exact ⟨_, by simp [ofP, h5, epN, mpN, h12_4], rfl, rfl⟩)
    by_cases h12_5 : w = 5
    · refine r_tableIn 94 d_Mod_of_12 (by rw [h12_5]; decide) (by rw [h12_5]; decide) (by rw [h12_5]; try rfl) rfl ?_
      refine r_aload_n rfl 95 rfl d_Mod_of_94 ?_
      refine r_iload_n rfl 96 rfl d_Mod_of_95 ?_
      refine r_callVA1 (st2 := [.int (bal (ν 0) (σ 5) pN)]) (w2 := MW X a ν σ τ) lk_Mod_balance ln_Mod_131 (c_Mod_balance X a ν σ τ hn6 pN (by omega)) (by first | decide | omega) rfl rfl (Nat.le_of_ble_eq_true rfl) (Nat.le_of_ble_eq_true rfl) (Nat.le_of_ble_eq_true rfl) 0 rfl rfl rfl rfl 99 rfl d_Mod_of_96 ?_
      exact r_iret rfl (Nat.zero_le _) (Nat.zero_le _) d_Mod_of_99 (by rw [← hQ]; exact ⟨_, by simp [ofP, h5, epN, mpN, h12_5], rfl, rfl⟩)
    by_cases h12_6 : w = 6
    · refine r_tableIn 100 d_Mod_of_12 (by rw [h12_6]; decide) (by rw [h12_6]; decide) (by rw [h12_6]; try rfl) rfl ?_
      refine r_aload_n rfl 101 rfl d_Mod_of_100 ?_
      refine r_iconst (nI 1) rfl 102 rfl d_Mod_of_101 ?_
      refine r_iload_n rfl 103 rfl d_Mod_of_102 ?_
      refine r_ishl 104 rfl d_Mod_of_103 ?_
      refine r_topi (nI (1 <<< pN)) (nI_shl (by omega) (one_shl (by omega))) ?_
      refine r_callVA1 (st2 := [.int (nI (fails (ν 0) (σ 3) (σ 5) (1 <<< pN)))]) (w2 := MW X a ν σ τ) lk_Mod_fails ln_Mod_134 (c_Mod_fails X a ν σ τ hn6 (1 <<< pN) (by first | omega | assumption | exact shl_lt6 (by omega))) (by first | decide | omega) rfl rfl (Nat.le_of_ble_eq_true rfl) (Nat.le_of_ble_eq_true rfl) (Nat.le_of_ble_eq_true rfl) 0 rfl rfl rfl rfl 107 rfl d_Mod_of_104 ?_
      exact r_iret rfl (Nat.zero_le _) (Nat.zero_le _) d_Mod_of_107 (by rw [← hQ]; exact ⟨_, by simp [ofP, h5, epN, mpN, h12_6], rfl, rfl⟩)
    by_cases h12_7 : w = 7
    · refine r_tableIn 108 d_Mod_of_12 (by rw [h12_7]; decide) (by rw [h12_7]; decide) (by rw [h12_7]; try rfl) rfl ?_
      refine r_aload_n rfl 109 rfl d_Mod_of_108 ?_
      refine r_iload_n rfl 110 rfl d_Mod_of_109 ?_
      refine r_callVAQ (st2 := []) (w2 := []) lk_Mod_gift ln_Mod_137 (c_Mod_gift X a ν σ τ hn6 pN (by omega)) (by first | decide | omega) rfl rfl (Nat.le_of_ble_eq_true rfl) (Nat.le_of_ble_eq_true rfl) (Nat.le_of_ble_eq_true rfl) 0 rfl rfl 113 rfl d_Mod_of_110 (fun vv ww hq => ?_)
      obtain ⟨r0, hr0, rfl, rfl⟩ := hq
      refine ⟨rfl, ?_⟩
      show Runs X 6 M_Mod_of 0 0 Q 113 [some (.ref (a 0)), some (.int (nI pN)), some (.int w)] [.int r0] 0 0 (MW X a ν σ τ)
      exact r_iret rfl (Nat.zero_le _) (Nat.zero_le _) d_Mod_of_113 (by rw [← hQ]; exact ⟨_, by simp only [ofP, if_pos h5, epN, if_neg h12_0, if_neg h12_1, if_neg h12_2, if_neg h12_3, if_neg h12_4, if_neg h12_5, if_neg h12_6, if_pos h12_7]; exact hr0, rfl, rfl⟩)
    have t12_0 : ¬ (w).toInt = 0 := lv_neT h12_0 (by decide)
    have t12_1 : ¬ (w).toInt = 1 := lv_neT h12_1 (by decide)
    have t12_2 : ¬ (w).toInt = 2 := lv_neT h12_2 (by decide)
    have t12_3 : ¬ (w).toInt = 3 := lv_neT h12_3 (by decide)
    have t12_4 : ¬ (w).toInt = 4 := lv_neT h12_4 (by decide)
    have t12_5 : ¬ (w).toInt = 5 := lv_neT h12_5 (by decide)
    have t12_6 : ¬ (w).toInt = 6 := lv_neT h12_6 (by decide)
    have t12_7 : ¬ (w).toInt = 7 := lv_neT h12_7 (by decide)
    refine r_tableOut 114 d_Mod_of_12 (by omega) rfl ?_
    refine r_ldc (v := (-1000001)) (inTB 1005 (by decide +kernel) rfl) 116 rfl d_Mod_of_114 ?_
    exact r_iret rfl (Nat.zero_le _) (Nat.zero_le _) d_Mod_of_116 (by rw [← hQ]; exact ⟨_, by simp [ofP, h5, epN, mpN, h12_0, h12_1, h12_2, h12_3, h12_4, h12_5, h12_6, h12_7], rfl, rfl⟩)
  · refine r_ldc (v := (-1000001)) (inTB 1005 (by decide +kernel) rfl) 10 rfl d_Mod_of_8 ?_
    exact r_iret rfl (Nat.zero_le _) (Nat.zero_le _) d_Mod_of_10 (by rw [← hQ]; exact ⟨_, by simp [ofP, h5], rfl, rfl⟩)
