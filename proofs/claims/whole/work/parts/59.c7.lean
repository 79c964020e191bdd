theorem hx_u2 {A B : Nat} {σ : Nat → Nat → Int32} {k c : Nat} {f : Nat → Int32} {x : EX} (h : heldC A B (σ (41 + 4 * k)) (σ (42 + 4 * k)) (σ (43 + 4 * k)) x) (hc : c < 41) : heldC A B (u2 σ c f (41 + 4 * k)) (u2 σ c f (42 + 4 * k)) (u2 σ c f (43 + 4 * k)) x := by
  rw [u2_n (by omega), u2_n (by omega), u2_n (by omega)]; exact h
def M_HB_reads : XM := (⟨"HandshakeBinds", "reads", "(IIII)I"⟩, prog_1_method_6_code, 6, (some .int))
theorem d_HB_reads_0 : decode M_HB_reads.2.1 0 = .ok (.aload_n 0, 1) := by decide +kernel
theorem d_HB_reads_1 : decode M_HB_reads.2.1 1 = .ok (.iload_n 1, 1) := by decide +kernel
theorem d_HB_reads_2 : decode M_HB_reads.2.1 2 = .ok (.iload_n 2, 1) := by decide +kernel
theorem d_HB_reads_3 : decode M_HB_reads.2.1 3 = .ok (.invokevirtual 95, 3) := by decide +kernel
theorem d_HB_reads_6 : decode M_HB_reads.2.1 6 = .ok (.istore 5, 2) := by decide +kernel
theorem d_HB_reads_8 : decode M_HB_reads.2.1 8 = .ok (.iload 5, 2) := by decide +kernel
theorem d_HB_reads_10 : decode M_HB_reads.2.1 10 = .ok (.ifCond .eq 6, 3) := by decide +kernel
theorem d_HB_reads_16 : decode M_HB_reads.2.1 16 = .ok (.iload_n 3, 1) := by decide +kernel
theorem d_HB_reads_17 : decode M_HB_reads.2.1 17 = .ok (.ifCond .lt 21, 3) := by decide +kernel
theorem d_HB_reads_38 : decode M_HB_reads.2.1 38 = .ok (.bipush (-2), 2) := by decide +kernel
theorem d_HB_reads_40 : decode M_HB_reads.2.1 40 = .ok (.ireturn, 1) := by decide +kernel
theorem d_HB_reads_20 : decode M_HB_reads.2.1 20 = .ok (.iload_n 3, 1) := by decide +kernel
theorem d_HB_reads_21 : decode M_HB_reads.2.1 21 = .ok (.bipush 99, 2) := by decide +kernel
theorem d_HB_reads_23 : decode M_HB_reads.2.1 23 = .ok (.if_icmp .gt 15, 3) := by decide +kernel
theorem d_HB_reads_26 : decode M_HB_reads.2.1 26 = .ok (.iload 4, 2) := by decide +kernel
theorem d_HB_reads_28 : decode M_HB_reads.2.1 28 = .ok (.ifCond .lt 10, 3) := by decide +kernel
theorem d_HB_reads_31 : decode M_HB_reads.2.1 31 = .ok (.iload 4, 2) := by decide +kernel
theorem d_HB_reads_33 : decode M_HB_reads.2.1 33 = .ok (.bipush 60, 2) := by decide +kernel
theorem d_HB_reads_35 : decode M_HB_reads.2.1 35 = .ok (.if_icmp .le 6, 3) := by decide +kernel
theorem d_HB_reads_41 : decode M_HB_reads.2.1 41 = .ok (.aload_n 0, 1) := by decide +kernel
theorem d_HB_reads_42 : decode M_HB_reads.2.1 42 = .ok (.getfield 12, 3) := by decide +kernel
theorem d_HB_reads_45 : decode M_HB_reads.2.1 45 = .ok (.aload_n 0, 1) := by decide +kernel
theorem d_HB_reads_46 : decode M_HB_reads.2.1 46 = .ok (.invokevirtual 109, 3) := by decide +kernel
theorem ln_HB_109 : Cond.methodLink "HandshakeBinds" 109 M_HB_held.1 ∈ TB := inTB 426 (by decide +kernel) rfl
theorem lk_HB_held : LVt M_HB_held 0 := ⟨⟨inTB 62 (by decide +kernel) rfl, inTB 429 (by decide +kernel) rfl, ⟨by decide, by decide, by decide +kernel⟩, by decide⟩, inTB 428 (by decide +kernel) rfl, inTB 3 (by decide +kernel) rfl⟩
theorem d_HB_reads_49 : decode M_HB_reads.2.1 49 = .ok (.iload_n 1, 1) := by decide +kernel
theorem d_HB_reads_50 : decode M_HB_reads.2.1 50 = .ok (.iload_n 2, 1) := by decide +kernel
theorem d_HB_reads_51 : decode M_HB_reads.2.1 51 = .ok (.iload_n 3, 1) := by decide +kernel
theorem d_HB_reads_52 : decode M_HB_reads.2.1 52 = .ok (.aload_n 0, 1) := by decide +kernel
theorem d_HB_reads_53 : decode M_HB_reads.2.1 53 = .ok (.getfield 12, 3) := by decide +kernel
theorem d_HB_reads_56 : decode M_HB_reads.2.1 56 = .ok (.getfield 113, 3) := by decide +kernel
theorem d_HB_reads_59 : decode M_HB_reads.2.1 59 = .ok (.iload 4, 2) := by decide +kernel
theorem d_HB_reads_61 : decode M_HB_reads.2.1 61 = .ok (.iadd, 1) := by decide +kernel
theorem d_HB_reads_62 : decode M_HB_reads.2.1 62 = .ok (.invokevirtual 116, 3) := by decide +kernel
theorem ln_HB_116 : Cond.methodLink "HandshakeBinds" 116 M_Mkt_readAs.1 ∈ TB := inTB 434 (by decide +kernel) rfl
theorem d_HB_reads_65 : decode M_HB_reads.2.1 65 = .ok (.ireturn, 1) := by decide +kernel
theorem d_HB_reads_13 : decode M_HB_reads.2.1 13 = .ok (.iload 5, 2) := by decide +kernel
theorem d_HB_reads_15 : decode M_HB_reads.2.1 15 = .ok (.ireturn, 1) := by decide +kernel
def M_HB_shake : XM := (⟨"HandshakeBinds", "shake", "(III)I"⟩, prog_1_method_7_code, 6, (some .int))
theorem d_HB_shake_0 : decode M_HB_shake.2.1 0 = .ok (.aload_n 0, 1) := by decide +kernel
theorem d_HB_shake_1 : decode M_HB_shake.2.1 1 = .ok (.iload_n 1, 1) := by decide +kernel
theorem d_HB_shake_2 : decode M_HB_shake.2.1 2 = .ok (.iload_n 2, 1) := by decide +kernel
theorem d_HB_shake_3 : decode M_HB_shake.2.1 3 = .ok (.invokevirtual 95, 3) := by decide +kernel
theorem d_HB_shake_6 : decode M_HB_shake.2.1 6 = .ok (.istore 4, 2) := by decide +kernel
theorem d_HB_shake_8 : decode M_HB_shake.2.1 8 = .ok (.iload 4, 2) := by decide +kernel
theorem d_HB_shake_10 : decode M_HB_shake.2.1 10 = .ok (.ifCond .eq 6, 3) := by decide +kernel
theorem d_HB_shake_16 : decode M_HB_shake.2.1 16 = .ok (.iload_n 3, 1) := by decide +kernel
theorem d_HB_shake_17 : decode M_HB_shake.2.1 17 = .ok (.ifCond .lt 9, 3) := by decide +kernel
theorem d_HB_shake_26 : decode M_HB_shake.2.1 26 = .ok (.bipush (-2), 2) := by decide +kernel
theorem d_HB_shake_28 : decode M_HB_shake.2.1 28 = .ok (.ireturn, 1) := by decide +kernel
theorem d_HB_shake_20 : decode M_HB_shake.2.1 20 = .ok (.iload_n 3, 1) := by decide +kernel
theorem d_HB_shake_21 : decode M_HB_shake.2.1 21 = .ok (.bipush 99, 2) := by decide +kernel
theorem d_HB_shake_23 : decode M_HB_shake.2.1 23 = .ok (.if_icmp .le 6, 3) := by decide +kernel
theorem d_HB_shake_29 : decode M_HB_shake.2.1 29 = .ok (.aload_n 0, 1) := by decide +kernel
theorem d_HB_shake_30 : decode M_HB_shake.2.1 30 = .ok (.getfield 12, 3) := by decide +kernel
theorem d_HB_shake_33 : decode M_HB_shake.2.1 33 = .ok (.getfield 49, 3) := by decide +kernel
theorem d_HB_shake_36 : decode M_HB_shake.2.1 36 = .ok (.iload_n 1, 1) := by decide +kernel
theorem d_HB_shake_37 : decode M_HB_shake.2.1 37 = .ok (.iload_n 2, 1) := by decide +kernel
theorem d_HB_shake_38 : decode M_HB_shake.2.1 38 = .ok (.invokevirtual 98, 3) := by decide +kernel
theorem d_HB_shake_41 : decode M_HB_shake.2.1 41 = .ok (.aload_n 0, 1) := by decide +kernel
theorem d_HB_shake_42 : decode M_HB_shake.2.1 42 = .ok (.getfield 12, 3) := by decide +kernel
theorem d_HB_shake_45 : decode M_HB_shake.2.1 45 = .ok (.aload_n 0, 1) := by decide +kernel
theorem d_HB_shake_46 : decode M_HB_shake.2.1 46 = .ok (.invokevirtual 109, 3) := by decide +kernel
theorem d_HB_shake_49 : decode M_HB_shake.2.1 49 = .ok (.iload_n 1, 1) := by decide +kernel
theorem d_HB_shake_50 : decode M_HB_shake.2.1 50 = .ok (.iload_n 2, 1) := by decide +kernel
theorem d_HB_shake_51 : decode M_HB_shake.2.1 51 = .ok (.iload_n 3, 1) := by decide +kernel
theorem d_HB_shake_52 : decode M_HB_shake.2.1 52 = .ok (.aload_n 0, 1) := by decide +kernel
theorem d_HB_shake_53 : decode M_HB_shake.2.1 53 = .ok (.getfield 12, 3) := by decide +kernel
theorem d_HB_shake_56 : decode M_HB_shake.2.1 56 = .ok (.getfield 113, 3) := by decide +kernel
theorem d_HB_shake_59 : decode M_HB_shake.2.1 59 = .ok (.invokevirtual 116, 3) := by decide +kernel
theorem d_HB_shake_62 : decode M_HB_shake.2.1 62 = .ok (.iadd, 1) := by decide +kernel
theorem d_HB_shake_63 : decode M_HB_shake.2.1 63 = .ok (.istore 5, 2) := by decide +kernel
theorem d_HB_shake_65 : decode M_HB_shake.2.1 65 = .ok (.aload_n 0, 1) := by decide +kernel
theorem d_HB_shake_66 : decode M_HB_shake.2.1 66 = .ok (.getfield 12, 3) := by decide +kernel
theorem d_HB_shake_69 : decode M_HB_shake.2.1 69 = .ok (.getfield 49, 3) := by decide +kernel
theorem d_HB_shake_72 : decode M_HB_shake.2.1 72 = .ok (.iload_n 1, 1) := by decide +kernel
theorem d_HB_shake_73 : decode M_HB_shake.2.1 73 = .ok (.iload_n 2, 1) := by decide +kernel
theorem d_HB_shake_74 : decode M_HB_shake.2.1 74 = .ok (.iload 5, 2) := by decide +kernel
theorem d_HB_shake_76 : decode M_HB_shake.2.1 76 = .ok (.sipush 9999, 3) := by decide +kernel
theorem d_HB_shake_79 : decode M_HB_shake.2.1 79 = .ok (.invokestatic 120, 3) := by decide +kernel
theorem d_HB_shake_82 : decode M_HB_shake.2.1 82 = .ok (.invokevirtual 101, 3) := by decide +kernel
theorem d_HB_shake_85 : decode M_HB_shake.2.1 85 = .ok (.aload_n 0, 1) := by decide +kernel
theorem d_HB_shake_86 : decode M_HB_shake.2.1 86 = .ok (.getfield 12, 3) := by decide +kernel
theorem d_HB_shake_89 : decode M_HB_shake.2.1 89 = .ok (.getfield 49, 3) := by decide +kernel
theorem d_HB_shake_92 : decode M_HB_shake.2.1 92 = .ok (.iload_n 1, 1) := by decide +kernel
theorem d_HB_shake_93 : decode M_HB_shake.2.1 93 = .ok (.iload_n 2, 1) := by decide +kernel
theorem d_HB_shake_94 : decode M_HB_shake.2.1 94 = .ok (.invokevirtual 98, 3) := by decide +kernel
theorem d_HB_shake_97 : decode M_HB_shake.2.1 97 = .ok (.ireturn, 1) := by decide +kernel
theorem d_HB_shake_13 : decode M_HB_shake.2.1 13 = .ok (.iload 4, 2) := by decide +kernel
theorem d_HB_shake_15 : decode M_HB_shake.2.1 15 = .ok (.ireturn, 1) := by decide +kernel
def M_HB_between : XM := (⟨"HandshakeBinds", "between", "(III)I"⟩, prog_1_method_8_code, 5, (some .int))
theorem d_HB_between_0 : decode M_HB_between.2.1 0 = .ok (.iload_n 3, 1) := by decide +kernel
theorem d_HB_between_1 : decode M_HB_between.2.1 1 = .ok (.ifCond .lt 8, 3) := by decide +kernel
theorem d_HB_between_9 : decode M_HB_between.2.1 9 = .ok (.iconst (-1), 1) := by decide +kernel
theorem d_HB_between_10 : decode M_HB_between.2.1 10 = .ok (.ireturn, 1) := by decide +kernel
theorem d_HB_between_4 : decode M_HB_between.2.1 4 = .ok (.iload_n 3, 1) := by decide +kernel
theorem d_HB_between_5 : decode M_HB_between.2.1 5 = .ok (.iconst 1, 1) := by decide +kernel
theorem d_HB_between_6 : decode M_HB_between.2.1 6 = .ok (.if_icmp .le 5, 3) := by decide +kernel
theorem d_HB_between_11 : decode M_HB_between.2.1 11 = .ok (.aload_n 0, 1) := by decide +kernel
theorem d_HB_between_12 : decode M_HB_between.2.1 12 = .ok (.iload_n 1, 1) := by decide +kernel
theorem d_HB_between_13 : decode M_HB_between.2.1 13 = .ok (.iload_n 2, 1) := by decide +kernel
theorem d_HB_between_14 : decode M_HB_between.2.1 14 = .ok (.invokevirtual 95, 3) := by decide +kernel
theorem d_HB_between_17 : decode M_HB_between.2.1 17 = .ok (.istore 4, 2) := by decide +kernel
theorem d_HB_between_19 : decode M_HB_between.2.1 19 = .ok (.iload 4, 2) := by decide +kernel
theorem d_HB_between_21 : decode M_HB_between.2.1 21 = .ok (.ifCond .eq 6, 3) := by decide +kernel
theorem d_HB_between_27 : decode M_HB_between.2.1 27 = .ok (.iload_n 3, 1) := by decide +kernel
theorem d_HB_between_28 : decode M_HB_between.2.1 28 = .ok (.ifCond .ne 16, 3) := by decide +kernel
theorem d_HB_between_44 : decode M_HB_between.2.1 44 = .ok (.aload_n 0, 1) := by decide +kernel
theorem d_HB_between_45 : decode M_HB_between.2.1 45 = .ok (.getfield 12, 3) := by decide +kernel
theorem d_HB_between_48 : decode M_HB_between.2.1 48 = .ok (.aload_n 0, 1) := by decide +kernel
theorem d_HB_between_49 : decode M_HB_between.2.1 49 = .ok (.invokevirtual 109, 3) := by decide +kernel
theorem d_HB_between_52 : decode M_HB_between.2.1 52 = .ok (.iload_n 1, 1) := by decide +kernel
theorem d_HB_between_53 : decode M_HB_between.2.1 53 = .ok (.iload_n 2, 1) := by decide +kernel
theorem d_HB_between_54 : decode M_HB_between.2.1 54 = .ok (.invokevirtual 125, 3) := by decide +kernel
theorem ln_HB_125 : Cond.methodLink "HandshakeBinds" 125 M_Mkt_readAll.1 ∈ TB := inTB 475 (by decide +kernel) rfl
theorem lk_Mkt_readAll : LVt M_Mkt_readAll 3 := ⟨⟨inTB 63 (by decide +kernel) rfl, inTB 478 (by decide +kernel) rfl, ⟨by decide, by decide, by decide +kernel⟩, by decide⟩, inTB 476 (by decide +kernel) rfl, inTB 477 (by decide +kernel) rfl⟩
theorem d_HB_between_57 : decode M_HB_between.2.1 57 = .ok (.aload_n 0, 1) := by decide +kernel
theorem d_HB_between_58 : decode M_HB_between.2.1 58 = .ok (.getfield 12, 3) := by decide +kernel
theorem d_HB_between_61 : decode M_HB_between.2.1 61 = .ok (.invokevirtual 129, 3) := by decide +kernel
theorem ln_HB_129 : Cond.methodLink "HandshakeBinds" 129 M_Mkt_span.1 ∈ TB := inTB 480 (by decide +kernel) rfl
theorem lk_Mkt_span : LVt M_Mkt_span 0 := ⟨⟨inTB 63 (by decide +kernel) rfl, inTB 483 (by decide +kernel) rfl, ⟨by decide, by decide, by decide +kernel⟩, by decide⟩, inTB 481 (by decide +kernel) rfl, inTB 482 (by decide +kernel) rfl⟩
theorem d_HB_between_64 : decode M_HB_between.2.1 64 = .ok (.ireturn, 1) := by decide +kernel
theorem d_HB_between_31 : decode M_HB_between.2.1 31 = .ok (.aload_n 0, 1) := by decide +kernel
theorem d_HB_between_32 : decode M_HB_between.2.1 32 = .ok (.getfield 12, 3) := by decide +kernel
theorem d_HB_between_35 : decode M_HB_between.2.1 35 = .ok (.getfield 49, 3) := by decide +kernel
theorem d_HB_between_38 : decode M_HB_between.2.1 38 = .ok (.iload_n 1, 1) := by decide +kernel
theorem d_HB_between_39 : decode M_HB_between.2.1 39 = .ok (.iload_n 2, 1) := by decide +kernel
theorem d_HB_between_40 : decode M_HB_between.2.1 40 = .ok (.invokevirtual 98, 3) := by decide +kernel
theorem d_HB_between_43 : decode M_HB_between.2.1 43 = .ok (.ireturn, 1) := by decide +kernel
theorem d_HB_between_24 : decode M_HB_between.2.1 24 = .ok (.iload 4, 2) := by decide +kernel
theorem d_HB_between_26 : decode M_HB_between.2.1 26 = .ok (.ireturn, 1) := by decide +kernel
def M_HB_squeezes : XM := (⟨"HandshakeBinds", "squeezes", "(IIII)I"⟩, prog_1_method_9_code, 6, (some .int))
theorem d_HB_squeezes_0 : decode M_HB_squeezes.2.1 0 = .ok (.iload 4, 2) := by decide +kernel
theorem d_HB_squeezes_2 : decode M_HB_squeezes.2.1 2 = .ok (.ifCond .lt 9, 3) := by decide +kernel
theorem d_HB_squeezes_11 : decode M_HB_squeezes.2.1 11 = .ok (.iconst (-1), 1) := by decide +kernel
theorem d_HB_squeezes_12 : decode M_HB_squeezes.2.1 12 = .ok (.ireturn, 1) := by decide +kernel
theorem d_HB_squeezes_5 : decode M_HB_squeezes.2.1 5 = .ok (.iload 4, 2) := by decide +kernel
theorem d_HB_squeezes_7 : decode M_HB_squeezes.2.1 7 = .ok (.iconst 1, 1) := by decide +kernel
theorem d_HB_squeezes_8 : decode M_HB_squeezes.2.1 8 = .ok (.if_icmp .le 5, 3) := by decide +kernel
theorem d_HB_squeezes_13 : decode M_HB_squeezes.2.1 13 = .ok (.aload_n 0, 1) := by decide +kernel
theorem d_HB_squeezes_14 : decode M_HB_squeezes.2.1 14 = .ok (.iload_n 1, 1) := by decide +kernel
theorem d_HB_squeezes_15 : decode M_HB_squeezes.2.1 15 = .ok (.iload_n 2, 1) := by decide +kernel
theorem d_HB_squeezes_16 : decode M_HB_squeezes.2.1 16 = .ok (.invokevirtual 95, 3) := by decide +kernel
theorem d_HB_squeezes_19 : decode M_HB_squeezes.2.1 19 = .ok (.istore 5, 2) := by decide +kernel
theorem d_HB_squeezes_21 : decode M_HB_squeezes.2.1 21 = .ok (.iload 5, 2) := by decide +kernel
theorem d_HB_squeezes_23 : decode M_HB_squeezes.2.1 23 = .ok (.ifCond .eq 6, 3) := by decide +kernel
theorem d_HB_squeezes_29 : decode M_HB_squeezes.2.1 29 = .ok (.iload_n 3, 1) := by decide +kernel
theorem d_HB_squeezes_30 : decode M_HB_squeezes.2.1 30 = .ok (.iconst 1, 1) := by decide +kernel
theorem d_HB_squeezes_31 : decode M_HB_squeezes.2.1 31 = .ok (.if_icmp .lt 10, 3) := by decide +kernel
theorem d_HB_squeezes_41 : decode M_HB_squeezes.2.1 41 = .ok (.bipush (-2), 2) := by decide +kernel
theorem d_HB_squeezes_43 : decode M_HB_squeezes.2.1 43 = .ok (.ireturn, 1) := by decide +kernel
theorem d_HB_squeezes_34 : decode M_HB_squeezes.2.1 34 = .ok (.iload_n 3, 1) := by decide +kernel
theorem d_HB_squeezes_35 : decode M_HB_squeezes.2.1 35 = .ok (.sipush 999, 3) := by decide +kernel
theorem d_HB_squeezes_38 : decode M_HB_squeezes.2.1 38 = .ok (.if_icmp .le 6, 3) := by decide +kernel
theorem d_HB_squeezes_44 : decode M_HB_squeezes.2.1 44 = .ok (.aload_n 0, 1) := by decide +kernel
theorem d_HB_squeezes_45 : decode M_HB_squeezes.2.1 45 = .ok (.getfield 12, 3) := by decide +kernel
theorem d_HB_squeezes_48 : decode M_HB_squeezes.2.1 48 = .ok (.aload_n 0, 1) := by decide +kernel
theorem d_HB_squeezes_49 : decode M_HB_squeezes.2.1 49 = .ok (.invokevirtual 109, 3) := by decide +kernel
theorem d_HB_squeezes_52 : decode M_HB_squeezes.2.1 52 = .ok (.iload_n 1, 1) := by decide +kernel
theorem d_HB_squeezes_53 : decode M_HB_squeezes.2.1 53 = .ok (.iload_n 2, 1) := by decide +kernel
theorem d_HB_squeezes_54 : decode M_HB_squeezes.2.1 54 = .ok (.invokevirtual 125, 3) := by decide +kernel
theorem d_HB_squeezes_57 : decode M_HB_squeezes.2.1 57 = .ok (.iload 4, 2) := by decide +kernel
theorem d_HB_squeezes_59 : decode M_HB_squeezes.2.1 59 = .ok (.ifCond .ne 14, 3) := by decide +kernel
theorem d_HB_squeezes_73 : decode M_HB_squeezes.2.1 73 = .ok (.aload_n 0, 1) := by decide +kernel
theorem d_HB_squeezes_74 : decode M_HB_squeezes.2.1 74 = .ok (.getfield 12, 3) := by decide +kernel
theorem d_HB_squeezes_77 : decode M_HB_squeezes.2.1 77 = .ok (.iload_n 3, 1) := by decide +kernel
theorem d_HB_squeezes_78 : decode M_HB_squeezes.2.1 78 = .ok (.invokevirtual 136, 3) := by decide +kernel
theorem ln_HB_136 : Cond.methodLink "HandshakeBinds" 136 M_Mkt_leastFor.1 ∈ TB := inTB 496 (by decide +kernel) rfl
theorem d_HB_squeezes_81 : decode M_HB_squeezes.2.1 81 = .ok (.ireturn, 1) := by decide +kernel
theorem d_HB_squeezes_62 : decode M_HB_squeezes.2.1 62 = .ok (.aload_n 0, 1) := by decide +kernel
theorem d_HB_squeezes_63 : decode M_HB_squeezes.2.1 63 = .ok (.getfield 12, 3) := by decide +kernel
theorem d_HB_squeezes_66 : decode M_HB_squeezes.2.1 66 = .ok (.iload_n 3, 1) := by decide +kernel
theorem d_HB_squeezes_67 : decode M_HB_squeezes.2.1 67 = .ok (.invokevirtual 133, 3) := by decide +kernel
theorem ln_HB_133 : Cond.methodLink "HandshakeBinds" 133 M_Mkt_squeezesFor.1 ∈ TB := inTB 492 (by decide +kernel) rfl
theorem lk_Mkt_squeezesFor : LVt M_Mkt_squeezesFor 1 := ⟨⟨inTB 63 (by decide +kernel) rfl, inTB 495 (by decide +kernel) rfl, ⟨by decide, by decide, by decide +kernel⟩, by decide⟩, inTB 493 (by decide +kernel) rfl, inTB 494 (by decide +kernel) rfl⟩
theorem d_HB_squeezes_70 : decode M_HB_squeezes.2.1 70 = .ok (.goto 11, 3) := by decide +kernel
theorem d_HB_squeezes_26 : decode M_HB_squeezes.2.1 26 = .ok (.iload 5, 2) := by decide +kernel
theorem d_HB_squeezes_28 : decode M_HB_squeezes.2.1 28 = .ok (.ireturn, 1) := by decide +kernel
def M_HB_wrong : XM := (⟨"HandshakeBinds", "wrong", "()I"⟩, prog_1_method_16_code, 2, (some .int))
theorem d_HB_wrong_0 : decode M_HB_wrong.2.1 0 = .ok (.iconst 0, 1) := by decide +kernel
theorem d_HB_wrong_1 : decode M_HB_wrong.2.1 1 = .ok (.istore_n 1, 1) := by decide +kernel
theorem d_HB_wrong_2 : decode M_HB_wrong.2.1 2 = .ok (.iload_n 1, 1) := by decide +kernel
theorem d_HB_wrong_3 : decode M_HB_wrong.2.1 3 = .ok (.aload_n 0, 1) := by decide +kernel
theorem d_HB_wrong_4 : decode M_HB_wrong.2.1 4 = .ok (.getfield 12, 3) := by decide +kernel
theorem d_HB_wrong_7 : decode M_HB_wrong.2.1 7 = .ok (.getfield 175, 3) := by decide +kernel
theorem d_HB_wrong_10 : decode M_HB_wrong.2.1 10 = .ok (.getfield 179, 3) := by decide +kernel
theorem d_HB_wrong_13 : decode M_HB_wrong.2.1 13 = .ok (.if_icmp .ge 48, 3) := by decide +kernel
theorem d_HB_wrong_61 : decode M_HB_wrong.2.1 61 = .ok (.bipush (-5), 2) := by decide +kernel
theorem d_HB_wrong_63 : decode M_HB_wrong.2.1 63 = .ok (.ireturn, 1) := by decide +kernel
theorem d_HB_wrong_16 : decode M_HB_wrong.2.1 16 = .ok (.aload_n 0, 1) := by decide +kernel
theorem d_HB_wrong_17 : decode M_HB_wrong.2.1 17 = .ok (.getfield 12, 3) := by decide +kernel
theorem d_HB_wrong_20 : decode M_HB_wrong.2.1 20 = .ok (.aload_n 0, 1) := by decide +kernel
theorem d_HB_wrong_21 : decode M_HB_wrong.2.1 21 = .ok (.invokevirtual 109, 3) := by decide +kernel
theorem d_HB_wrong_24 : decode M_HB_wrong.2.1 24 = .ok (.iload_n 1, 1) := by decide +kernel
theorem d_HB_wrong_25 : decode M_HB_wrong.2.1 25 = .ok (.aload_n 0, 1) := by decide +kernel
theorem d_HB_wrong_26 : decode M_HB_wrong.2.1 26 = .ok (.getfield 12, 3) := by decide +kernel
theorem d_HB_wrong_29 : decode M_HB_wrong.2.1 29 = .ok (.getfield 73, 3) := by decide +kernel
theorem d_HB_wrong_32 : decode M_HB_wrong.2.1 32 = .ok (.aload_n 0, 1) := by decide +kernel
theorem d_HB_wrong_33 : decode M_HB_wrong.2.1 33 = .ok (.getfield 12, 3) := by decide +kernel
theorem d_HB_wrong_36 : decode M_HB_wrong.2.1 36 = .ok (.getfield 175, 3) := by decide +kernel
theorem d_HB_wrong_39 : decode M_HB_wrong.2.1 39 = .ok (.iload_n 1, 1) := by decide +kernel
theorem d_HB_wrong_40 : decode M_HB_wrong.2.1 40 = .ok (.iconst 0, 1) := by decide +kernel
theorem d_HB_wrong_41 : decode M_HB_wrong.2.1 41 = .ok (.invokevirtual 186, 3) := by decide +kernel
theorem d_HB_wrong_44 : decode M_HB_wrong.2.1 44 = .ok (.invokestatic 69, 3) := by decide +kernel
theorem d_HB_wrong_47 : decode M_HB_wrong.2.1 47 = .ok (.invokevirtual 189, 3) := by decide +kernel
theorem ln_HB_189 : Cond.methodLink "HandshakeBinds" 189 M_Mkt_seenIsSo.1 ∈ TB := inTB 670 (by decide +kernel) rfl
theorem d_HB_wrong_50 : decode M_HB_wrong.2.1 50 = .ok (.ifCond .ne 5, 3) := by decide +kernel
theorem d_HB_wrong_55 : decode M_HB_wrong.2.1 55 = .ok (.iinc 1 1, 3) := by decide +kernel
theorem d_HB_wrong_58 : decode M_HB_wrong.2.1 58 = .ok (.goto (-56), 3) := by decide +kernel
theorem d_HB_wrong_53 : decode M_HB_wrong.2.1 53 = .ok (.iload_n 1, 1) := by decide +kernel
theorem d_HB_wrong_54 : decode M_HB_wrong.2.1 54 = .ok (.ireturn, 1) := by decide +kernel
theorem i_m1 (x : Int32) : x + Int32.ofInt (-1) = x - 1 := by rw [Int32.sub_eq_add_neg]; rfl
def M_HB_can : XM := (⟨"HandshakeBinds", "can", "(II)I"⟩, prog_1_method_17_code, 6, (some .int))
theorem d_HB_can_0 : decode M_HB_can.2.1 0 = .ok (.aload_n 0, 1) := by decide +kernel
theorem d_HB_can_1 : decode M_HB_can.2.1 1 = .ok (.iload_n 1, 1) := by decide +kernel
theorem d_HB_can_2 : decode M_HB_can.2.1 2 = .ok (.invokevirtual 60, 3) := by decide +kernel
theorem d_HB_can_5 : decode M_HB_can.2.1 5 = .ok (.ifCond .eq 12, 3) := by decide +kernel
theorem d_HB_can_17 : decode M_HB_can.2.1 17 = .ok (.iconst (-1), 1) := by decide +kernel
theorem d_HB_can_18 : decode M_HB_can.2.1 18 = .ok (.ireturn, 1) := by decide +kernel
theorem d_HB_can_8 : decode M_HB_can.2.1 8 = .ok (.iload_n 2, 1) := by decide +kernel
theorem d_HB_can_9 : decode M_HB_can.2.1 9 = .ok (.ifCond .lt 8, 3) := by decide +kernel
theorem d_HB_can_12 : decode M_HB_can.2.1 12 = .ok (.iload_n 2, 1) := by decide +kernel
theorem d_HB_can_13 : decode M_HB_can.2.1 13 = .ok (.iconst 1, 1) := by decide +kernel
theorem d_HB_can_14 : decode M_HB_can.2.1 14 = .ok (.if_icmp .le 5, 3) := by decide +kernel
theorem d_HB_can_19 : decode M_HB_can.2.1 19 = .ok (.iconst 0, 1) := by decide +kernel
theorem d_HB_can_20 : decode M_HB_can.2.1 20 = .ok (.istore_n 3, 1) := by decide +kernel
theorem d_HB_can_21 : decode M_HB_can.2.1 21 = .ok (.bipush (-5), 2) := by decide +kernel
theorem d_HB_can_23 : decode M_HB_can.2.1 23 = .ok (.istore 4, 2) := by decide +kernel
theorem d_HB_can_25 : decode M_HB_can.2.1 25 = .ok (.bipush 9, 2) := by decide +kernel
theorem d_HB_can_27 : decode M_HB_can.2.1 27 = .ok (.istore 5, 2) := by decide +kernel
theorem d_HB_can_29 : decode M_HB_can.2.1 29 = .ok (.iload 5, 2) := by decide +kernel
theorem d_HB_can_31 : decode M_HB_can.2.1 31 = .ok (.ifCond .lt 33, 3) := by decide +kernel
theorem d_HB_can_64 : decode M_HB_can.2.1 64 = .ok (.iload_n 2, 1) := by decide +kernel
theorem d_HB_can_65 : decode M_HB_can.2.1 65 = .ok (.ifCond .ne 7, 3) := by decide +kernel
theorem d_HB_can_72 : decode M_HB_can.2.1 72 = .ok (.iload 4, 2) := by decide +kernel
theorem d_HB_can_74 : decode M_HB_can.2.1 74 = .ok (.ireturn, 1) := by decide +kernel
theorem d_HB_can_68 : decode M_HB_can.2.1 68 = .ok (.iload_n 3, 1) := by decide +kernel
theorem d_HB_can_69 : decode M_HB_can.2.1 69 = .ok (.goto 5, 3) := by decide +kernel
theorem d_HB_can_34 : decode M_HB_can.2.1 34 = .ok (.aload_n 0, 1) := by decide +kernel
theorem d_HB_can_35 : decode M_HB_can.2.1 35 = .ok (.getfield 12, 3) := by decide +kernel
theorem d_HB_can_38 : decode M_HB_can.2.1 38 = .ok (.aload_n 0, 1) := by decide +kernel
theorem d_HB_can_39 : decode M_HB_can.2.1 39 = .ok (.invokevirtual 109, 3) := by decide +kernel
theorem d_HB_can_42 : decode M_HB_can.2.1 42 = .ok (.iload_n 1, 1) := by decide +kernel
theorem d_HB_can_43 : decode M_HB_can.2.1 43 = .ok (.iload 5, 2) := by decide +kernel
theorem d_HB_can_45 : decode M_HB_can.2.1 45 = .ok (.invokevirtual 193, 3) := by decide +kernel
theorem ln_HB_193 : Cond.methodLink "HandshakeBinds" 193 M_Mkt_fitsSeen.1 ∈ TB := inTB 679 (by decide +kernel) rfl
theorem lk_Mkt_fitsSeen : LVt M_Mkt_fitsSeen 3 := ⟨⟨inTB 63 (by decide +kernel) rfl, inTB 682 (by decide +kernel) rfl, ⟨by decide, by decide, by decide +kernel⟩, by decide⟩, inTB 680 (by decide +kernel) rfl, inTB 681 (by decide +kernel) rfl⟩
theorem d_HB_can_48 : decode M_HB_can.2.1 48 = .ok (.ifCond .eq 10, 3) := by decide +kernel
theorem d_HB_can_58 : decode M_HB_can.2.1 58 = .ok (.iinc 5 (-1), 3) := by decide +kernel
theorem d_HB_can_61 : decode M_HB_can.2.1 61 = .ok (.goto (-32), 3) := by decide +kernel
theorem d_HB_can_51 : decode M_HB_can.2.1 51 = .ok (.iinc 3 1, 3) := by decide +kernel
theorem d_HB_can_54 : decode M_HB_can.2.1 54 = .ok (.iload 5, 2) := by decide +kernel
theorem d_HB_can_56 : decode M_HB_can.2.1 56 = .ok (.istore 4, 2) := by decide +kernel
theorem c_C_readAs (X : Xn) (a : Nat → Nat) (ν : Nat → Nat → Nat) (σ : Nat → Nat → Int32) (τ : Nat → Nat → Int64) (x : EX) (p q s d : Nat) (hh : ν 1 10 ≤ 6) (hx : heldC (ν (40 + 4 * ν 1 10) 4) (ν (40 + 4 * ν 1 10) 5) (σ (41 + 4 * ν 1 10)) (σ (42 + 4 * ν 1 10)) (σ (43 + 4 * ν 1 10)) x) (hp : p < 6) (hs : s ≤ 99) (hd : d < 100000) : Does X 6 M_Mkt_readAs [.ref (a 1), .ref (a (40 + 4 * ν 1 10)), .int (nI p), .int (nI q), .int (nI s), .int (nI d)] (CW X a ν σ τ) 0 0 (fun (vv : Option Value) (ww : va_W) => vv = some (.int (rdV x p q (σ 6 p) (σ 7 p) (σ 8) s d)) ∧ ∃ fs : Nat → Int32, ww = CW X a ν (u2 σ 16 fs) τ) := by
  generalize ν 1 10 = h at hh hx ⊢
  rcases (show h = 0 ∨ h = 1 ∨ h = 2 ∨ h = 3 ∨ h = 4 ∨ h = 5 ∨ h = 6 by omega) with rfl | rfl | rfl | rfl | rfl | rfl | rfl
  · exact (Does.frame (c_Mkt_readAs X (pl [1, 2, 3, 4, 5, 6, 7, 8, 9, 10, 11, 12, 13, 14, 15, 16, 40, 41, 42, 43] a) (pl [1, 2, 3, 4, 5, 6, 7, 8, 9, 10, 11, 12, 13, 14, 15, 16, 40, 41, 42, 43] ν) (pl [1, 2, 3, 4, 5, 6, 7, 8, 9, 10, 11, 12, 13, 14, 15, 16, 40, 41, 42, 43] σ) (pl [1, 2, 3, 4, 5, 6, 7, 8, 9, 10, 11, 12, 13, 14, 15, 16, 40, 41, 42, 43] τ) x p q s d hx hp hs hd) [1, 2, 3, 4, 5, 6, 7, 8, 9, 10, 11, 12, 13, 14, 15, 16, 40, 41, 42, 43] rfl (by decide) (fun v w0 hq => by rw [hq.2]; rfl)).mono (fun v w2 hq => by obtain ⟨w0, hq, rfl⟩ := hq; rw [hq.2]; exact ⟨hq.1, _, (Xput_mrg rfl).trans rfl⟩)
  · exact (Does.frame (c_Mkt_readAs X (pl [1, 2, 3, 4, 5, 6, 7, 8, 9, 10, 11, 12, 13, 14, 15, 16, 44, 45, 46, 47] a) (pl [1, 2, 3, 4, 5, 6, 7, 8, 9, 10, 11, 12, 13, 14, 15, 16, 44, 45, 46, 47] ν) (pl [1, 2, 3, 4, 5, 6, 7, 8, 9, 10, 11, 12, 13, 14, 15, 16, 44, 45, 46, 47] σ) (pl [1, 2, 3, 4, 5, 6, 7, 8, 9, 10, 11, 12, 13, 14, 15, 16, 44, 45, 46, 47] τ) x p q s d hx hp hs hd) [1, 2, 3, 4, 5, 6, 7, 8, 9, 10, 11, 12, 13, 14, 15, 16, 44, 45, 46, 47] rfl (by decide) (fun v w0 hq => by rw [hq.2]; rfl)).mono (fun v w2 hq => by obtain ⟨w0, hq, rfl⟩ := hq; rw [hq.2]; exact ⟨hq.1, _, (Xput_mrg rfl).trans rfl⟩)
  · exact (Does.frame (c_Mkt_readAs X (pl [1, 2, 3, 4, 5, 6, 7, 8, 9, 10, 11, 12, 13, 14, 15, 16, 48, 49, 50, 51] a) (pl [1, 2, 3, 4, 5, 6, 7, 8, 9, 10, 11, 12, 13, 14, 15, 16, 48, 49, 50, 51] ν) (pl [1, 2, 3, 4, 5, 6, 7, 8, 9, 10, 11, 12, 13, 14, 15, 16, 48, 49, 50, 51] σ) (pl [1, 2, 3, 4, 5, 6, 7, 8, 9, 10, 11, 12, 13, 14, 15, 16, 48, 49, 50, 51] τ) x p q s d hx hp hs hd) [1, 2, 3, 4, 5, 6, 7, 8, 9, 10, 11, 12, 13, 14, 15, 16, 48, 49, 50, 51] rfl (by decide) (fun v w0 hq => by rw [hq.2]; rfl)).mono (fun v w2 hq => by obtain ⟨w0, hq, rfl⟩ := hq; rw [hq.2]; exact ⟨hq.1, _, (Xput_mrg rfl).trans rfl⟩)
  · exact (Does.frame (c_Mkt_readAs X (pl [1, 2, 3, 4, 5, 6, 7, 8, 9, 10, 11, 12, 13, 14, 15, 16, 52, 53, 54, 55] a) (pl [1, 2, 3, 4, 5, 6, 7, 8, 9, 10, 11, 12, 13, 14, 15, 16, 52, 53, 54, 55] ν) (pl [1, 2, 3, 4, 5, 6, 7, 8, 9, 10, 11, 12, 13, 14, 15, 16, 52, 53, 54, 55] σ) (pl [1, 2, 3, 4, 5, 6, 7, 8, 9, 10, 11, 12, 13, 14, 15, 16, 52, 53, 54, 55] τ) x p q s d hx hp hs hd) [1, 2, 3, 4, 5, 6, 7, 8, 9, 10, 11, 12, 13, 14, 15, 16, 52, 53, 54, 55] rfl (by decide) (fun v w0 hq => by rw [hq.2]; rfl)).mono (fun v w2 hq => by obtain ⟨w0, hq, rfl⟩ := hq; rw [hq.2]; exact ⟨hq.1, _, (Xput_mrg rfl).trans rfl⟩)
  · exact (Does.frame (c_Mkt_readAs X (pl [1, 2, 3, 4, 5, 6, 7, 8, 9, 10, 11, 12, 13, 14, 15, 16, 56, 57, 58, 59] a) (pl [1, 2, 3, 4, 5, 6, 7, 8, 9, 10, 11, 12, 13, 14, 15, 16, 56, 57, 58, 59] ν) (pl [1, 2, 3, 4, 5, 6, 7, 8, 9, 10, 11, 12, 13, 14, 15, 16, 56, 57, 58, 59] σ) (pl [1, 2, 3, 4, 5, 6, 7, 8, 9, 10, 11, 12, 13, 14, 15, 16, 56, 57, 58, 59] τ) x p q s d hx hp hs hd) [1, 2, 3, 4, 5, 6, 7, 8, 9, 10, 11, 12, 13, 14, 15, 16, 56, 57, 58, 59] rfl (by decide) (fun v w0 hq => by rw [hq.2]; rfl)).mono (fun v w2 hq => by obtain ⟨w0, hq, rfl⟩ := hq; rw [hq.2]; exact ⟨hq.1, _, (Xput_mrg rfl).trans rfl⟩)
  · exact (Does.frame (c_Mkt_readAs X (pl [1, 2, 3, 4, 5, 6, 7, 8, 9, 10, 11, 12, 13, 14, 15, 16, 60, 61, 62, 63] a) (pl [1, 2, 3, 4, 5, 6, 7, 8, 9, 10, 11, 12, 13, 14, 15, 16, 60, 61, 62, 63] ν) (pl [1, 2, 3, 4, 5, 6, 7, 8, 9, 10, 11, 12, 13, 14, 15, 16, 60, 61, 62, 63] σ) (pl [1, 2, 3, 4, 5, 6, 7, 8, 9, 10, 11, 12, 13, 14, 15, 16, 60, 61, 62, 63] τ) x p q s d hx hp hs hd) [1, 2, 3, 4, 5, 6, 7, 8, 9, 10, 11, 12, 13, 14, 15, 16, 60, 61, 62, 63] rfl (by decide) (fun v w0 hq => by rw [hq.2]; rfl)).mono (fun v w2 hq => by obtain ⟨w0, hq, rfl⟩ := hq; rw [hq.2]; exact ⟨hq.1, _, (Xput_mrg rfl).trans rfl⟩)
  · exact (Does.frame (c_Mkt_readAs X (pl [1, 2, 3, 4, 5, 6, 7, 8, 9, 10, 11, 12, 13, 14, 15, 16, 64, 65, 66, 67] a) (pl [1, 2, 3, 4, 5, 6, 7, 8, 9, 10, 11, 12, 13, 14, 15, 16, 64, 65, 66, 67] ν) (pl [1, 2, 3, 4, 5, 6, 7, 8, 9, 10, 11, 12, 13, 14, 15, 16, 64, 65, 66, 67] σ) (pl [1, 2, 3, 4, 5, 6, 7, 8, 9, 10, 11, 12, 13, 14, 15, 16, 64, 65, 66, 67] τ) x p q s d hx hp hs hd) [1, 2, 3, 4, 5, 6, 7, 8, 9, 10, 11, 12, 13, 14, 15, 16, 64, 65, 66, 67] rfl (by decide) (fun v w0 hq => by rw [hq.2]; rfl)).mono (fun v w2 hq => by obtain ⟨w0, hq, rfl⟩ := hq; rw [hq.2]; exact ⟨hq.1, _, (Xput_mrg rfl).trans rfl⟩)
theorem c_C_readAll (X : Xn) (a : Nat → Nat) (ν : Nat → Nat → Nat) (σ : Nat → Nat → Int32) (τ : Nat → Nat → Int64) (x : EX) (p q : Nat) (hh : ν 1 10 ≤ 6) (hx : heldC (ν (40 + 4 * ν 1 10) 4) (ν (40 + 4 * ν 1 10) 5) (σ (41 + 4 * ν 1 10)) (σ (42 + 4 * ν 1 10)) (σ (43 + 4 * ν 1 10)) x) (hp : p < 6) (hd : ν 1 9 < 100000) : Does X 7 M_Mkt_readAll [.ref (a 1), .ref (a (40 + 4 * ν 1 10)), .int (nI p), .int (nI q)] (CW X a ν σ τ) 0 0 (fun (vv : Option Value) (ww : va_W) => vv = none ∧ ∃ fs : Nat → Int32, ww = CW X a ν (u2 (u2 σ 15 (seqA (fun z => rdV x p q (σ 6 p) (σ 7 p) (σ 8) z (ν 1 9)) (σ 15) 100)) 16 fs) τ) := by
  generalize ν 1 10 = h at hh hx ⊢
  rcases (show h = 0 ∨ h = 1 ∨ h = 2 ∨ h = 3 ∨ h = 4 ∨ h = 5 ∨ h = 6 by omega) with rfl | rfl | rfl | rfl | rfl | rfl | rfl
  · exact (Does.frame (c_Mkt_readAll X (pl [1, 2, 3, 4, 5, 6, 7, 8, 9, 10, 11, 12, 13, 14, 15, 16, 40, 41, 42, 43] a) (pl [1, 2, 3, 4, 5, 6, 7, 8, 9, 10, 11, 12, 13, 14, 15, 16, 40, 41, 42, 43] ν) (pl [1, 2, 3, 4, 5, 6, 7, 8, 9, 10, 11, 12, 13, 14, 15, 16, 40, 41, 42, 43] σ) (pl [1, 2, 3, 4, 5, 6, 7, 8, 9, 10, 11, 12, 13, 14, 15, 16, 40, 41, 42, 43] τ) x p q hx hp hd) [1, 2, 3, 4, 5, 6, 7, 8, 9, 10, 11, 12, 13, 14, 15, 16, 40, 41, 42, 43] rfl (by decide) (fun v w0 hq => by rw [hq.2]; rfl)).mono (fun v w2 hq => by obtain ⟨w0, hq, rfl⟩ := hq; rw [hq.2]; exact ⟨hq.1, _, (Xput_mrg rfl).trans rfl⟩)
  · exact (Does.frame (c_Mkt_readAll X (pl [1, 2, 3, 4, 5, 6, 7, 8, 9, 10, 11, 12, 13, 14, 15, 16, 44, 45, 46, 47] a) (pl [1, 2, 3, 4, 5, 6, 7, 8, 9, 10, 11, 12, 13, 14, 15, 16, 44, 45, 46, 47] ν) (pl [1, 2, 3, 4, 5, 6, 7, 8, 9, 10, 11, 12, 13, 14, 15, 16, 44, 45, 46, 47] σ) (pl [1, 2, 3, 4, 5, 6, 7, 8, 9, 10, 11, 12, 13, 14, 15, 16, 44, 45, 46, 47] τ) x p q hx hp hd) [1, 2, 3, 4, 5, 6, 7, 8, 9, 10, 11, 12, 13, 14, 15, 16, 44, 45, 46, 47] rfl (by decide) (fun v w0 hq => by rw [hq.2]; rfl)).mono (fun v w2 hq => by obtain ⟨w0, hq, rfl⟩ := hq; rw [hq.2]; exact ⟨hq.1, _, (Xput_mrg rfl).trans rfl⟩)
  · exact (Does.frame (c_Mkt_readAll X (pl [1, 2, 3, 4, 5, 6, 7, 8, 9, 10, 11, 12, 13, 14, 15, 16, 48, 49, 50, 51] a) (pl [1, 2, 3, 4, 5, 6, 7, 8, 9, 10, 11, 12, 13, 14, 15, 16, 48, 49, 50, 51] ν) (pl [1, 2, 3, 4, 5, 6, 7, 8, 9, 10, 11, 12, 13, 14, 15, 16, 48, 49, 50, 51] σ) (pl [1, 2, 3, 4, 5, 6, 7, 8, 9, 10, 11, 12, 13, 14, 15, 16, 48, 49, 50, 51] τ) x p q hx hp hd) [1, 2, 3, 4, 5, 6, 7, 8, 9, 10, 11, 12, 13, 14, 15, 16, 48, 49, 50, 51] rfl (by decide) (fun v w0 hq => by rw [hq.2]; rfl)).mono (fun v w2 hq => by obtain ⟨w0, hq, rfl⟩ := hq; rw [hq.2]; exact ⟨hq.1, _, (Xput_mrg rfl).trans rfl⟩)
  · exact (Does.frame (c_Mkt_readAll X (pl [1, 2, 3, 4, 5, 6, 7, 8, 9, 10, 11, 12, 13, 14, 15, 16, 52, 53, 54, 55] a) (pl [1, 2, 3, 4, 5, 6, 7, 8, 9, 10, 11, 12, 13, 14, 15, 16, 52, 53, 54, 55] ν) (pl [1, 2, 3, 4, 5, 6, 7, 8, 9, 10, 11, 12, 13, 14, 15, 16, 52, 53, 54, 55] σ) (pl [1, 2, 3, 4, 5, 6, 7, 8, 9, 10, 11, 12, 13, 14, 15, 16, 52, 53, 54, 55] τ) x p q hx hp hd) [1, 2, 3, 4, 5, 6, 7, 8, 9, 10, 11, 12, 13, 14, 15, 16, 52, 53, 54, 55] rfl (by decide) (fun v w0 hq => by rw [hq.2]; rfl)).mono (fun v w2 hq => by obtain ⟨w0, hq, rfl⟩ := hq; rw [hq.2]; exact ⟨hq.1, _, (Xput_mrg rfl).trans rfl⟩)
  · exact (Does.frame (c_Mkt_readAll X (pl [1, 2, 3, 4, 5, 6, 7, 8, 9, 10, 11, 12, 13, 14, 15, 16, 56, 57, 58, 59] a) (pl [1, 2, 3, 4, 5, 6, 7, 8, 9, 10, 11, 12, 13, 14, 15, 16, 56, 57, 58, 59] ν) (pl [1, 2, 3, 4, 5, 6, 7, 8, 9, 10, 11, 12, 13, 14, 15, 16, 56, 57, 58, 59] σ) (pl [1, 2, 3, 4, 5, 6, 7, 8, 9, 10, 11, 12, 13, 14, 15, 16, 56, 57, 58, 59] τ) x p q hx hp hd) [1, 2, 3, 4, 5, 6, 7, 8, 9, 10, 11, 12, 13, 14, 15, 16, 56, 57, 58, 59] rfl (by decide) (fun v w0 hq => by rw [hq.2]; rfl)).mono (fun v w2 hq => by obtain ⟨w0, hq, rfl⟩ := hq; rw [hq.2]; exact ⟨hq.1, _, (Xput_mrg rfl).trans rfl⟩)
  · exact (Does.frame (c_Mkt_readAll X (pl [1, 2, 3, 4, 5, 6, 7, 8, 9, 10, 11, 12, 13, 14, 15, 16, 60, 61, 62, 63] a) (pl [1, 2, 3, 4, 5, 6, 7, 8, 9, 10, 11, 12, 13, 14, 15, 16, 60, 61, 62, 63] ν) (pl [1, 2, 3, 4, 5, 6, 7, 8, 9, 10, 11, 12, 13, 14, 15, 16, 60, 61, 62, 63] σ) (pl [1, 2, 3, 4, 5, 6, 7, 8, 9, 10, 11, 12, 13, 14, 15, 16, 60, 61, 62, 63] τ) x p q hx hp hd) [1, 2, 3, 4, 5, 6, 7, 8, 9, 10, 11, 12, 13, 14, 15, 16, 60, 61, 62, 63] rfl (by decide) (fun v w0 hq => by rw [hq.2]; rfl)).mono (fun v w2 hq => by obtain ⟨w0, hq, rfl⟩ := hq; rw [hq.2]; exact ⟨hq.1, _, (Xput_mrg rfl).trans rfl⟩)
  · exact (Does.frame (c_Mkt_readAll X (pl [1, 2, 3, 4, 5, 6, 7, 8, 9, 10, 11, 12, 13, 14, 15, 16, 64, 65, 66, 67] a) (pl [1, 2, 3, 4, 5, 6, 7, 8, 9, 10, 11, 12, 13, 14, 15, 16, 64, 65, 66, 67] ν) (pl [1, 2, 3, 4, 5, 6, 7, 8, 9, 10, 11, 12, 13, 14, 15, 16, 64, 65, 66, 67] σ) (pl [1, 2, 3, 4, 5, 6, 7, 8, 9, 10, 11, 12, 13, 14, 15, 16, 64, 65, 66, 67] τ) x p q hx hp hd) [1, 2, 3, 4, 5, 6, 7, 8, 9, 10, 11, 12, 13, 14, 15, 16, 64, 65, 66, 67] rfl (by decide) (fun v w0 hq => by rw [hq.2]; rfl)).mono (fun v w2 hq => by obtain ⟨w0, hq, rfl⟩ := hq; rw [hq.2]; exact ⟨hq.1, _, (Xput_mrg rfl).trans rfl⟩)
theorem c_C_seenIsSo (X : Xn) (a : Nat → Nat) (ν : Nat → Nat → Nat) (σ : Nat → Nat → Int32) (τ : Nat → Nat → Int64) (x : EX) (i : Nat) (v : Int32) (hh : ν 1 10 ≤ 6) (hx : heldC (ν (40 + 4 * ν 1 10) 4) (ν (40 + 4 * ν 1 10) 5) (σ (41 + 4 * ν 1 10)) (σ (42 + 4 * ν 1 10)) (σ (43 + 4 * ν 1 10)) x) (hse : seenOk (σ 10) (ν 9 1)) (hd : ν 1 9 < 90000) (hi : i < ν 9 1) : Does X 6 M_Mkt_seenIsSo [.ref (a 1), .ref (a (40 + 4 * ν 1 10)), .int (nI i), .int v] (CW X a ν σ τ) 0 0 (fun (vv : Option Value) (ww : va_W) => vv = some (.int (bI (soC x (σ 6) (σ 8) (ν 1 9) (σ 10) i v))) ∧ ∃ fs : Nat → Int32, ww = CW X a ν (u2 σ 16 fs) τ) := by
  generalize ν 1 10 = h at hh hx ⊢
  rcases (show h = 0 ∨ h = 1 ∨ h = 2 ∨ h = 3 ∨ h = 4 ∨ h = 5 ∨ h = 6 by omega) with rfl | rfl | rfl | rfl | rfl | rfl | rfl
  · exact (Does.frame (c_Mkt_seenIsSo X (pl [1, 2, 3, 4, 5, 6, 7, 8, 9, 10, 11, 12, 13, 14, 15, 16, 40, 41, 42, 43] a) (pl [1, 2, 3, 4, 5, 6, 7, 8, 9, 10, 11, 12, 13, 14, 15, 16, 40, 41, 42, 43] ν) (pl [1, 2, 3, 4, 5, 6, 7, 8, 9, 10, 11, 12, 13, 14, 15, 16, 40, 41, 42, 43] σ) (pl [1, 2, 3, 4, 5, 6, 7, 8, 9, 10, 11, 12, 13, 14, 15, 16, 40, 41, 42, 43] τ) x i v hx hse hd hi) [1, 2, 3, 4, 5, 6, 7, 8, 9, 10, 11, 12, 13, 14, 15, 16, 40, 41, 42, 43] rfl (by decide) (fun v w0 hq => by obtain ⟨fs, _, e⟩ := hq; rw [e]; rfl)).mono (fun v w2 hq => by obtain ⟨w0, ⟨fs, e1, e2⟩, rfl⟩ := hq; rw [e2]; exact ⟨e1, fs, (Xput_mrg rfl).trans rfl⟩)
  · exact (Does.frame (c_Mkt_seenIsSo X (pl [1, 2, 3, 4, 5, 6, 7, 8, 9, 10, 11, 12, 13, 14, 15, 16, 44, 45, 46, 47] a) (pl [1, 2, 3, 4, 5, 6, 7, 8, 9, 10, 11, 12, 13, 14, 15, 16, 44, 45, 46, 47] ν) (pl [1, 2, 3, 4, 5, 6, 7, 8, 9, 10, 11, 12, 13, 14, 15, 16, 44, 45, 46, 47] σ) (pl [1, 2, 3, 4, 5, 6, 7, 8, 9, 10, 11, 12, 13, 14, 15, 16, 44, 45, 46, 47] τ) x i v hx hse hd hi) [1, 2, 3, 4, 5, 6, 7, 8, 9, 10, 11, 12, 13, 14, 15, 16, 44, 45, 46, 47] rfl (by decide) (fun v w0 hq => by obtain ⟨fs, _, e⟩ := hq; rw [e]; rfl)).mono (fun v w2 hq => by obtain ⟨w0, ⟨fs, e1, e2⟩, rfl⟩ := hq; rw [e2]; exact ⟨e1, fs, (Xput_mrg rfl).trans rfl⟩)
  · exact (Does.frame (c_Mkt_seenIsSo X (pl [1, 2, 3, 4, 5, 6, 7, 8, 9, 10, 11, 12, 13, 14, 15, 16, 48, 49, 50, 51] a) (pl [1, 2, 3, 4, 5, 6, 7, 8, 9, 10, 11, 12, 13, 14, 15, 16, 48, 49, 50, 51] ν) (pl [1, 2, 3, 4, 5, 6, 7, 8, 9, 10, 11, 12, 13, 14, 15, 16, 48, 49, 50, 51] σ) (pl [1, 2, 3, 4, 5, 6, 7, 8, 9, 10, 11, 12, 13, 14, 15, 16, 48, 49, 50, 51] τ) x i v hx hse hd hi) [1, 2, 3, 4, 5, 6, 7, 8, 9, 10, 11, 12, 13, 14, 15, 16, 48, 49, 50, 51] rfl (by decide) (fun v w0 hq => by obtain ⟨fs, _, e⟩ := hq; rw [e]; rfl)).mono (fun v w2 hq => by obtain ⟨w0, ⟨fs, e1, e2⟩, rfl⟩ := hq; rw [e2]; exact ⟨e1, fs, (Xput_mrg rfl).trans rfl⟩)
  · exact (Does.frame (c_Mkt_seenIsSo X (pl [1, 2, 3, 4, 5, 6, 7, 8, 9, 10, 11, 12, 13, 14, 15, 16, 52, 53, 54, 55] a) (pl [1, 2, 3, 4, 5, 6, 7, 8, 9, 10, 11, 12, 13, 14, 15, 16, 52, 53, 54, 55] ν) (pl [1, 2, 3, 4, 5, 6, 7, 8, 9, 10, 11, 12, 13, 14, 15, 16, 52, 53, 54, 55] σ) (pl [1, 2, 3, 4, 5, 6, 7, 8, 9, 10, 11, 12, 13, 14, 15, 16, 52, 53, 54, 55] τ) x i v hx hse hd hi) [1, 2, 3, 4, 5, 6, 7, 8, 9, 10, 11, 12, 13, 14, 15, 16, 52, 53, 54, 55] rfl (by decide) (fun v w0 hq => by obtain ⟨fs, _, e⟩ := hq; rw [e]; rfl)).mono (fun v w2 hq => by obtain ⟨w0, ⟨fs, e1, e2⟩, rfl⟩ := hq; rw [e2]; exact ⟨e1, fs, (Xput_mrg rfl).trans rfl⟩)
  · exact (Does.frame (c_Mkt_seenIsSo X (pl [1, 2, 3, 4, 5, 6, 7, 8, 9, 10, 11, 12, 13, 14, 15, 16, 56, 57, 58, 59] a) (pl [1, 2, 3, 4, 5, 6, 7, 8, 9, 10, 11, 12, 13, 14, 15, 16, 56, 57, 58, 59] ν) (pl [1, 2, 3, 4, 5, 6, 7, 8, 9, 10, 11, 12, 13, 14, 15, 16, 56, 57, 58, 59] σ) (pl [1, 2, 3, 4, 5, 6, 7, 8, 9, 10, 11, 12, 13, 14, 15, 16, 56, 57, 58, 59] τ) x i v hx hse hd hi) [1, 2, 3, 4, 5, 6, 7, 8, 9, 10, 11, 12, 13, 14, 15, 16, 56, 57, 58, 59] rfl (by decide) (fun v w0 hq => by obtain ⟨fs, _, e⟩ := hq; rw [e]; rfl)).mono (fun v w2 hq => by obtain ⟨w0, ⟨fs, e1, e2⟩, rfl⟩ := hq; rw [e2]; exact ⟨e1, fs, (Xput_mrg rfl).trans rfl⟩)
  · exact (Does.frame (c_Mkt_seenIsSo X (pl [1, 2, 3, 4, 5, 6, 7, 8, 9, 10, 11, 12, 13, 14, 15, 16, 60, 61, 62, 63] a) (pl [1, 2, 3, 4, 5, 6, 7, 8, 9, 10, 11, 12, 13, 14, 15, 16, 60, 61, 62, 63] ν) (pl [1, 2, 3, 4, 5, 6, 7, 8, 9, 10, 11, 12, 13, 14, 15, 16, 60, 61, 62, 63] σ) (pl [1, 2, 3, 4, 5, 6, 7, 8, 9, 10, 11, 12, 13, 14, 15, 16, 60, 61, 62, 63] τ) x i v hx hse hd hi) [1, 2, 3, 4, 5, 6, 7, 8, 9, 10, 11, 12, 13, 14, 15, 16, 60, 61, 62, 63] rfl (by decide) (fun v w0 hq => by obtain ⟨fs, _, e⟩ := hq; rw [e]; rfl)).mono (fun v w2 hq => by obtain ⟨w0, ⟨fs, e1, e2⟩, rfl⟩ := hq; rw [e2]; exact ⟨e1, fs, (Xput_mrg rfl).trans rfl⟩)
  · exact (Does.frame (c_Mkt_seenIsSo X (pl [1, 2, 3, 4, 5, 6, 7, 8, 9, 10, 11, 12, 13, 14, 15, 16, 64, 65, 66, 67] a) (pl [1, 2, 3, 4, 5, 6, 7, 8, 9, 10, 11, 12, 13, 14, 15, 16, 64, 65, 66, 67] ν) (pl [1, 2, 3, 4, 5, 6, 7, 8, 9, 10, 11, 12, 13, 14, 15, 16, 64, 65, 66, 67] σ) (pl [1, 2, 3, 4, 5, 6, 7, 8, 9, 10, 11, 12, 13, 14, 15, 16, 64, 65, 66, 67] τ) x i v hx hse hd hi) [1, 2, 3, 4, 5, 6, 7, 8, 9, 10, 11, 12, 13, 14, 15, 16, 64, 65, 66, 67] rfl (by decide) (fun v w0 hq => by obtain ⟨fs, _, e⟩ := hq; rw [e]; rfl)).mono (fun v w2 hq => by obtain ⟨w0, ⟨fs, e1, e2⟩, rfl⟩ := hq; rw [e2]; exact ⟨e1, fs, (Xput_mrg rfl).trans rfl⟩)
theorem c_C_fitsSeen (X : Xn) (a : Nat → Nat) (ν : Nat → Nat → Nat) (σ : Nat → Nat → Int32) (τ : Nat → Nat → Int64) (x : EX) (p : Nat) (v : Int32) (hh : ν 1 10 ≤ 6) (hx : heldC (ν (40 + 4 * ν 1 10) 4) (ν (40 + 4 * ν 1 10) 5) (σ (41 + 4 * ν 1 10)) (σ (42 + 4 * ν 1 10)) (σ (43 + 4 * ν 1 10)) x) (hse : seenOk (σ 10) (ν 9 1)) (hd : ν 1 9 < 90000) : Does X 7 M_Mkt_fitsSeen [.ref (a 1), .ref (a (40 + 4 * ν 1 10)), .int (nI p), .int v] (CW X a ν σ τ) 0 0 (fun (vv : Option Value) (ww : va_W) => vv = some (.int (bI (allU (fun z => soC x (σ 6) (σ 8) (ν 1 9) (σ 10) z v) (col (σ 10) 0) p (ν 9 1) (ν 9 1)))) ∧ ∃ fs : Nat → Int32, ww = CW X a ν (u2 σ 16 fs) τ) := by
  generalize ν 1 10 = h at hh hx ⊢
  rcases (show h = 0 ∨ h = 1 ∨ h = 2 ∨ h = 3 ∨ h = 4 ∨ h = 5 ∨ h = 6 by omega) with rfl | rfl | rfl | rfl | rfl | rfl | rfl
  · exact (Does.frame (c_Mkt_fitsSeen X (pl [1, 2, 3, 4, 5, 6, 7, 8, 9, 10, 11, 12, 13, 14, 15, 16, 40, 41, 42, 43] a) (pl [1, 2, 3, 4, 5, 6, 7, 8, 9, 10, 11, 12, 13, 14, 15, 16, 40, 41, 42, 43] ν) (pl [1, 2, 3, 4, 5, 6, 7, 8, 9, 10, 11, 12, 13, 14, 15, 16, 40, 41, 42, 43] σ) (pl [1, 2, 3, 4, 5, 6, 7, 8, 9, 10, 11, 12, 13, 14, 15, 16, 40, 41, 42, 43] τ) x p v hx hse hd) [1, 2, 3, 4, 5, 6, 7, 8, 9, 10, 11, 12, 13, 14, 15, 16, 40, 41, 42, 43] rfl (by decide) (fun v w0 hq => by obtain ⟨fs, _, e⟩ := hq; rw [e]; rfl)).mono (fun v w2 hq => by obtain ⟨w0, ⟨fs, e1, e2⟩, rfl⟩ := hq; rw [e2]; exact ⟨e1, fs, (Xput_mrg rfl).trans rfl⟩)
  · exact (Does.frame (c_Mkt_fitsSeen X (pl [1, 2, 3, 4, 5, 6, 7, 8, 9, 10, 11, 12, 13, 14, 15, 16, 44, 45, 46, 47] a) (pl [1, 2, 3, 4, 5, 6, 7, 8, 9, 10, 11, 12, 13, 14, 15, 16, 44, 45, 46, 47] ν) (pl [1, 2, 3, 4, 5, 6, 7, 8, 9, 10, 11, 12, 13, 14, 15, 16, 44, 45, 46, 47] σ) (pl [1, 2, 3, 4, 5, 6, 7, 8, 9, 10, 11, 12, 13, 14, 15, 16, 44, 45, 46, 47] τ) x p v hx hse hd) [1, 2, 3, 4, 5, 6, 7, 8, 9, 10, 11, 12, 13, 14, 15, 16, 44, 45, 46, 47] rfl (by decide) (fun v w0 hq => by obtain ⟨fs, _, e⟩ := hq; rw [e]; rfl)).mono (fun v w2 hq => by obtain ⟨w0, ⟨fs, e1, e2⟩, rfl⟩ := hq; rw [e2]; exact ⟨e1, fs, (Xput_mrg rfl).trans rfl⟩)
  · exact (Does.frame (c_Mkt_fitsSeen X (pl [1, 2, 3, 4, 5, 6, 7, 8, 9, 10, 11, 12, 13, 14, 15, 16, 48, 49, 50, 51] a) (pl [1, 2, 3, 4, 5, 6, 7, 8, 9, 10, 11, 12, 13, 14, 15, 16, 48, 49, 50, 51] ν) (pl [1, 2, 3, 4, 5, 6, 7, 8, 9, 10, 11, 12, 13, 14, 15, 16, 48, 49, 50, 51] σ) (pl [1, 2, 3, 4, 5, 6, 7, 8, 9, 10, 11, 12, 13, 14, 15, 16, 48, 49, 50, 51] τ) x p v hx hse hd) [1, 2, 3, 4, 5, 6, 7, 8, 9, 10, 11, 12, 13, 14, 15, 16, 48, 49, 50, 51] rfl (by decide) (fun v w0 hq => by obtain ⟨fs, _, e⟩ := hq; rw [e]; rfl)).mono (fun v w2 hq => by obtain ⟨w0, ⟨fs, e1, e2⟩, rfl⟩ := hq; rw [e2]; exact ⟨e1, fs, (Xput_mrg rfl).trans rfl⟩)
  · exact (Does.frame (c_Mkt_fitsSeen X (pl [1, 2, 3, 4, 5, 6, 7, 8, 9, 10, 11, 12, 13, 14, 15, 16, 52, 53, 54, 55] a) (pl [1, 2, 3, 4, 5, 6, 7, 8, 9, 10, 11, 12, 13, 14, 15, 16, 52, 53, 54, 55] ν) (pl [1, 2, 3, 4, 5, 6, 7, 8, 9, 10, 11, 12, 13, 14, 15, 16, 52, 53, 54, 55] σ) (pl [1, 2, 3, 4, 5, 6, 7, 8, 9, 10, 11, 12, 13, 14, 15, 16, 52, 53, 54, 55] τ) x p v hx hse hd) [1, 2, 3, 4, 5, 6, 7, 8, 9, 10, 11, 12, 13, 14, 15, 16, 52, 53, 54, 55] rfl (by decide) (fun v w0 hq => by obtain ⟨fs, _, e⟩ := hq; rw [e]; rfl)).mono (fun v w2 hq => by obtain ⟨w0, ⟨fs, e1, e2⟩, rfl⟩ := hq; rw [e2]; exact ⟨e1, fs, (Xput_mrg rfl).trans rfl⟩)
  · exact (Does.frame (c_Mkt_fitsSeen X (pl [1, 2, 3, 4, 5, 6, 7, 8, 9, 10, 11, 12, 13, 14, 15, 16, 56, 57, 58, 59] a) (pl [1, 2, 3, 4, 5, 6, 7, 8, 9, 10, 11, 12, 13, 14, 15, 16, 56, 57, 58, 59] ν) (pl [1, 2, 3, 4, 5, 6, 7, 8, 9, 10, 11, 12, 13, 14, 15, 16, 56, 57, 58, 59] σ) (pl [1, 2, 3, 4, 5, 6, 7, 8, 9, 10, 11, 12, 13, 14, 15, 16, 56, 57, 58, 59] τ) x p v hx hse hd) [1, 2, 3, 4, 5, 6, 7, 8, 9, 10, 11, 12, 13, 14, 15, 16, 56, 57, 58, 59] rfl (by decide) (fun v w0 hq => by obtain ⟨fs, _, e⟩ := hq; rw [e]; rfl)).mono (fun v w2 hq => by obtain ⟨w0, ⟨fs, e1, e2⟩, rfl⟩ := hq; rw [e2]; exact ⟨e1, fs, (Xput_mrg rfl).trans rfl⟩)
  · exact (Does.frame (c_Mkt_fitsSeen X (pl [1, 2, 3, 4, 5, 6, 7, 8, 9, 10, 11, 12, 13, 14, 15, 16, 60, 61, 62, 63] a) (pl [1, 2, 3, 4, 5, 6, 7, 8, 9, 10, 11, 12, 13, 14, 15, 16, 60, 61, 62, 63] ν) (pl [1, 2, 3, 4, 5, 6, 7, 8, 9, 10, 11, 12, 13, 14, 15, 16, 60, 61, 62, 63] σ) (pl [1, 2, 3, 4, 5, 6, 7, 8, 9, 10, 11, 12, 13, 14, 15, 16, 60, 61, 62, 63] τ) x p v hx hse hd) [1, 2, 3, 4, 5, 6, 7, 8, 9, 10, 11, 12, 13, 14, 15, 16, 60, 61, 62, 63] rfl (by decide) (fun v w0 hq => by obtain ⟨fs, _, e⟩ := hq; rw [e]; rfl)).mono (fun v w2 hq => by obtain ⟨w0, ⟨fs, e1, e2⟩, rfl⟩ := hq; rw [e2]; exact ⟨e1, fs, (Xput_mrg rfl).trans rfl⟩)
  · exact (Does.frame (c_Mkt_fitsSeen X (pl [1, 2, 3, 4, 5, 6, 7, 8, 9, 10, 11, 12, 13, 14, 15, 16, 64, 65, 66, 67] a) (pl [1, 2, 3, 4, 5, 6, 7, 8, 9, 10, 11, 12, 13, 14, 15, 16, 64, 65, 66, 67] ν) (pl [1, 2, 3, 4, 5, 6, 7, 8, 9, 10, 11, 12, 13, 14, 15, 16, 64, 65, 66, 67] σ) (pl [1, 2, 3, 4, 5, 6, 7, 8, 9, 10, 11, 12, 13, 14, 15, 16, 64, 65, 66, 67] τ) x p v hx hse hd) [1, 2, 3, 4, 5, 6, 7, 8, 9, 10, 11, 12, 13, 14, 15, 16, 64, 65, 66, 67] rfl (by decide) (fun v w0 hq => by obtain ⟨fs, _, e⟩ := hq; rw [e]; rfl)).mono (fun v w2 hq => by obtain ⟨w0, ⟨fs, e1, e2⟩, rfl⟩ := hq; rw [e2]; exact ⟨e1, fs, (Xput_mrg rfl).trans rfl⟩)
theorem c_HB_reads (X : Xn) (a : Nat → Nat) (ν : Nat → Nat → Nat) (σ : Nat → Nat → Int32) (τ : Nat → Nat → Int64) (x : EX) (p : Int32) (q : Int32) (s : Int32) (m : Int32) (hn6 : ν 2 3 ≤ 6) (hd : ν 1 9 ≤ 9999) (hh : ν 1 10 ≤ 6) (hx : heldC (ν (40 + 4 * ν 1 10) 4) (ν (40 + 4 * ν 1 10) 5) (σ (41 + 4 * ν 1 10)) (σ (42 + 4 * ν 1 10)) (σ (43 + 4 * ν 1 10)) x) : Does X 7 M_HB_reads [.ref (a 0), .int p, .int q, .int s, .int m] (CW X a ν σ τ) 0 0 (fun (vv : Option Value) (ww : va_W) => vv = some (.int (R_reads (ν 2 3) x (σ 6) (σ 7) (σ 8) (ν 1 9) p q s m)) ∧ ∃ fs : Nat → Int32, ww = CW X a ν (u2 (σ) 16 fs) τ) := by
  generalize hQ : (fun (vv : Option Value) (ww : va_W) => vv = some (.int (R_reads (ν 2 3) x (σ 6) (σ 7) (σ 8) (ν 1 9) p q s m)) ∧ ∃ fs : Nat → Int32, ww = CW X a ν (u2 (σ) 16 fs) τ) = Q
  refine Does.go rfl (Nat.le_of_ble_eq_true rfl) [some (.ref (a 0)), some (.int p), some (.int q), some (.int s), some (.int m), none] 1 rfl ?_
  refine r_aload_n rfl 1 rfl d_HB_reads_0 ?_
  refine r_iload_n rfl 2 rfl d_HB_reads_1 ?_
  refine r_iload_n rfl 3 rfl d_HB_reads_2 ?_
  refine r_callVA1 (st2 := [.int (rpV (ν 2 3) p q)]) (w2 := CW X a ν σ τ) lk_HB_refusedPair ln_HB_95 (c_HB_refusedPair X a ν σ τ  p q (hn6)) (by first | decide | omega) rfl rfl (Nat.le_of_ble_eq_true rfl) (Nat.le_of_ble_eq_true rfl) (Nat.le_of_ble_eq_true rfl) 0 rfl rfl rfl rfl 6 rfl d_HB_reads_3 ?_
  refine r_istore (ls2 := [some (.ref (a 0)), some (.int p), some (.int q), some (.int s), some (.int m), some (.int (rpV (ν 2 3) p q))]) 8 rfl d_HB_reads_6 (by decide) rfl rfl ?_
  refine r_iload rfl 10 rfl d_HB_reads_8 ?_
  refine r_if_eq 13 16 rfl rfl d_HB_reads_10 (fun h10 => ?_) (fun h10 => ?_)
  · obtain ⟨pN, qN, hpN, hqN, hne, rfl, rfl⟩ := rpV_0 hn6 h10
    have epN : cn (nI pN) = pN := cn_nI (by omega)
    have eqN : cn (nI qN) = qN := cn_nI (by omega)
    have bpq := rpV_b hn6 hpN hqN
    have bp := isB_of hn6 hpN
    have bq := isB_of hn6 hqN
    have hnI := nI_ne (by omega) (by omega) hne
    have mpN : ¬ nI pN = -1 := m1n (by omega)
    refine r_iload_n rfl 17 rfl d_HB_reads_16 ?_
    refine r_if_lt 20 38 rfl rfl d_HB_reads_17 (fun h17 => ?_) (fun h17 => ?_)
    · have r_s : inR s (nI 0) (nI 99) = false := inR_lt h17
      refine r_bipush ((-2)) rfl 40 rfl d_HB_reads_38 ?_
      exact r_iret rfl (Nat.zero_le _) (Nat.zero_le _) d_HB_reads_40 (by rw [← hQ]; exact ⟨by simp [R_reads, epN, eqN, bp, bq, hnI, mpN, h17, r_s], σ 16, by simp [u2_self]⟩)
    · refine r_iload_n rfl 21 rfl d_HB_reads_20 ?_
      refine r_bipush (nI 99) rfl 23 rfl d_HB_reads_21 ?_
      refine r_icmp_gt 26 38 rfl rfl d_HB_reads_23 (fun h23 => ?_) (fun h23 => ?_)
      · have r_s : inR s (nI 0) (nI 99) = false := inR_gt h23
        refine r_bipush ((-2)) rfl 40 rfl d_HB_reads_38 ?_
        exact r_iret rfl (Nat.zero_le _) (Nat.zero_le _) d_HB_reads_40 (by rw [← hQ]; exact ⟨by simp [R_reads, epN, eqN, bp, bq, hnI, mpN, h17, h23, r_s], σ 16, by simp [u2_self]⟩)
      · have r_s : inR s (nI 0) (nI 99) = true := inR_in h17 h23
        obtain ⟨sN, hsN, rfl⟩ := inR_t (by decide) r_s
        have esN : cn (nI sN) = sN := cn_nI (by omega)
        refine r_iload rfl 28 rfl d_HB_reads_26 ?_
        refine r_if_lt 31 38 rfl rfl d_HB_reads_28 (fun h28 => ?_) (fun h28 => ?_)
        · have r_m : inR m (nI 0) (nI 60) = false := inR_lt h28
          refine r_bipush ((-2)) rfl 40 rfl d_HB_reads_38 ?_
          exact r_iret rfl (Nat.zero_le _) (Nat.zero_le _) d_HB_reads_40 (by rw [← hQ]; exact ⟨by simp [R_reads, epN, eqN, bp, bq, hnI, mpN, r_s, esN, h28, r_m], σ 16, by simp [u2_self]⟩)
        · refine r_iload rfl 33 rfl d_HB_reads_31 ?_
          refine r_bipush (nI 60) rfl 35 rfl d_HB_reads_33 ?_
          refine r_icmp_le 38 41 rfl rfl d_HB_reads_35 (fun h35 => ?_) (fun h35 => ?_)
          · have r_m : inR m (nI 0) (nI 60) = true := inR_in h28 (Int32.not_lt.mpr h35)
            obtain ⟨mN, hmN, rfl⟩ := inR_t (by decide) r_m
            have emN : cn (nI mN) = mN := cn_nI (by omega)
            refine r_aload_n rfl 42 rfl d_HB_reads_41 ?_
            refine r_getf (v := .ref (a 1)) gf_HB_12 0 rfl rfl 45 rfl d_HB_reads_42 ?_
            refine r_aload_n rfl 46 rfl d_HB_reads_45 ?_
            refine r_callVA1 (st2 := [.ref (a (40 + 4 * ν 1 10)), .ref (a 1)]) (w2 := CW X a ν σ τ) lk_HB_held ln_HB_109 (c_HB_held X a ν σ τ   (hh)) (by first | decide | omega) rfl rfl (Nat.le_of_ble_eq_true rfl) (Nat.le_of_ble_eq_true rfl) (Nat.le_of_ble_eq_true rfl) 0 rfl rfl rfl rfl 49 rfl d_HB_reads_46 ?_
            refine r_iload_n rfl 50 rfl d_HB_reads_49 ?_
            refine r_iload_n rfl 51 rfl d_HB_reads_50 ?_
            refine r_iload_n rfl 52 rfl d_HB_reads_51 ?_
            refine r_aload_n rfl 53 rfl d_HB_reads_52 ?_
            refine r_getf (v := .ref (a 1)) gf_HB_12 0 rfl rfl 56 rfl d_HB_reads_53 ?_
            refine r_getfn (v := .int (nI (ν 1 9))) gf_HB_113 1 rfl rfl 59 rfl d_HB_reads_56 ?_
            refine r_iload rfl 61 rfl d_HB_reads_59 ?_
            refine r_iadd 62 rfl d_HB_reads_61 ?_
            refine r_topi (nI ((ν 1 9) + mN)) (nI_add _ _) ?_
            refine r_callVAQ (st2 := []) (w2 := []) lk_Mkt_readAs ln_HB_116 (c_C_readAs X a ν σ τ x pN qN sN ((ν 1 9) + mN) hh hx (by omega) (by omega) (by omega)) (by first | decide | omega) rfl rfl (Nat.le_of_ble_eq_true rfl) (Nat.le_of_ble_eq_true rfl) (Nat.le_of_ble_eq_true rfl) 1 rfl rfl 65 rfl d_HB_reads_62 (fun vv ww hq2 => ?_)
            obtain ⟨rfl, fs1, rfl⟩ := hq2
            refine ⟨rfl, ?_⟩
            show Runs X 7 M_HB_reads 0 0 Q 65 [some (.ref (a 0)), some (.int (nI pN)), some (.int (nI qN)), some (.int (nI sN)), some (.int (nI mN)), some (.int (rpV (ν 2 3) (nI pN) (nI qN)))] [.int (rdV x pN qN (σ 6 pN) (σ 7 pN) (σ 8) sN ((ν 1 9) + mN))] 0 0 (CW X a ν (u2 σ 16 fs1) τ)
            exact r_iret rfl (Nat.zero_le _) (Nat.zero_le _) d_HB_reads_65 (by rw [← hQ]; exact ⟨by simp [R_reads, epN, eqN, bp, bq, hnI, mpN, r_s, esN, r_m, emN], fs1, rfl⟩)
          · have r_m : inR m (nI 0) (nI 60) = false := inR_gt (Int32.not_le.mp h35)
            refine r_bipush ((-2)) rfl 40 rfl d_HB_reads_38 ?_
            exact r_iret rfl (Nat.zero_le _) (Nat.zero_le _) d_HB_reads_40 (by rw [← hQ]; exact ⟨by simp [R_reads, epN, eqN, bp, bq, hnI, mpN, r_s, esN, h28, h35, r_m], σ 16, by simp [u2_self]⟩)
  · have pair : ¬ rpV (ν 2 3) p q = 0 := h10
    refine r_iload rfl 15 rfl d_HB_reads_13 ?_
    exact r_iret rfl (Nat.zero_le _) (Nat.zero_le _) d_HB_reads_15 (by rw [← hQ]; exact ⟨by rw [R_reads, rpE, if_neg pair], σ 16, by rw [u2_self]⟩)
theorem c_HB_shake (X : Xn) (a : Nat → Nat) (ν : Nat → Nat → Nat) (σ : Nat → Nat → Int32) (τ : Nat → Nat → Int64) (x : EX) (p : Int32) (q : Int32) (s : Int32) (hn6 : ν 2 3 ≤ 6) (hd : ν 1 9 ≤ 9999) (hh : ν 1 10 ≤ 6) (hx : heldC (ν (40 + 4 * ν 1 10) 4) (ν (40 + 4 * ν 1 10) 5) (σ (41 + 4 * ν 1 10)) (σ (42 + 4 * ν 1 10)) (σ (43 + 4 * ν 1 10)) x) : Does X 7 M_HB_shake [.ref (a 0), .int p, .int q, .int s] (CW X a ν σ τ) 0 0 (fun (vv : Option Value) (ww : va_W) => vv = some (.int (R_shake (ν 2 3) x (σ 6) (σ 7) (σ 8) (σ 4) (ν 1 9) p q s)) ∧ ∃ fs : Nat → Int32, ww = CW X a ν (u2 (if b_shake (ν 2 3) p q s = true then u2 σ 4 (upd (σ 4) (6 * cn p + cn q) (shakeV x (σ 6) (σ 7) (σ 8) (σ 4) (ν 1 9) p q s)) else σ) 16 fs) τ) := by
  generalize hQ : (fun (vv : Option Value) (ww : va_W) => vv = some (.int (R_shake (ν 2 3) x (σ 6) (σ 7) (σ 8) (σ 4) (ν 1 9) p q s)) ∧ ∃ fs : Nat → Int32, ww = CW X a ν (u2 (if b_shake (ν 2 3) p q s = true then u2 σ 4 (upd (σ 4) (6 * cn p + cn q) (shakeV x (σ 6) (σ 7) (σ 8) (σ 4) (ν 1 9) p q s)) else σ) 16 fs) τ) = Q
  refine Does.go rfl (Nat.le_of_ble_eq_true rfl) [some (.ref (a 0)), some (.int p), some (.int q), some (.int s), none, none] 2 rfl ?_
  refine r_aload_n rfl 1 rfl d_HB_shake_0 ?_
  refine r_iload_n rfl 2 rfl d_HB_shake_1 ?_
  refine r_iload_n rfl 3 rfl d_HB_shake_2 ?_
  refine r_callVA1 (st2 := [.int (rpV (ν 2 3) p q)]) (w2 := CW X a ν σ τ) lk_HB_refusedPair ln_HB_95 (c_HB_refusedPair X a ν σ τ  p q (hn6)) (by first | decide | omega) rfl rfl (Nat.le_of_ble_eq_true rfl) (Nat.le_of_ble_eq_true rfl) (Nat.le_of_ble_eq_true rfl) 0 rfl rfl rfl rfl 6 rfl d_HB_shake_3 ?_
  refine r_istore (ls2 := [some (.ref (a 0)), some (.int p), some (.int q), some (.int s), some (.int (rpV (ν 2 3) p q)), none]) 8 rfl d_HB_shake_6 (by decide) rfl rfl ?_
  refine r_iload rfl 10 rfl d_HB_shake_8 ?_
  refine r_if_eq 13 16 rfl rfl d_HB_shake_10 (fun h10 => ?_) (fun h10 => ?_)
  · obtain ⟨pN, qN, hpN, hqN, hne, rfl, rfl⟩ := rpV_0 hn6 h10
    have epN : cn (nI pN) = pN := cn_nI (by omega)
    have eqN : cn (nI qN) = qN := cn_nI (by omega)
    have bpq := rpV_b hn6 hpN hqN
    have bp := isB_of hn6 hpN
    have bq := isB_of hn6 hqN
    have hnI := nI_ne (by omega) (by omega) hne
    have mpN : ¬ nI pN = -1 := m1n (by omega)
    refine r_iload_n rfl 17 rfl d_HB_shake_16 ?_
    refine r_if_lt 20 26 rfl rfl d_HB_shake_17 (fun h17 => ?_) (fun h17 => ?_)
    · have r_s : inR s (nI 0) (nI 99) = false := inR_lt h17
      refine r_bipush ((-2)) rfl 28 rfl d_HB_shake_26 ?_
      exact r_iret rfl (Nat.zero_le _) (Nat.zero_le _) d_HB_shake_28 (by rw [← hQ]; exact ⟨by simp [R_shake, epN, eqN, bp, bq, hnI, mpN, h17, r_s], σ 16, by simp [b_shake, epN, eqN, bp, bq, hnI, mpN, h17, r_s, u2_self]⟩)
    · refine r_iload_n rfl 21 rfl d_HB_shake_20 ?_
      refine r_bipush (nI 99) rfl 23 rfl d_HB_shake_21 ?_
      refine r_icmp_le 26 29 rfl rfl d_HB_shake_23 (fun h23 => ?_) (fun h23 => ?_)
      · have r_s : inR s (nI 0) (nI 99) = true := inR_in h17 (Int32.not_lt.mpr h23)
        obtain ⟨sN, hsN, rfl⟩ := inR_t (by decide) r_s
        have esN : cn (nI sN) = sN := cn_nI (by omega)
        refine r_aload_n rfl 30 rfl d_HB_shake_29 ?_
        refine r_getf (v := .ref (a 1)) gf_HB_12 0 rfl rfl 33 rfl d_HB_shake_30 ?_
        refine r_getfn (v := .ref (a 2)) gf_HB_49 1 rfl rfl 36 rfl d_HB_shake_33 ?_
        refine r_iload_n rfl 37 rfl d_HB_shake_36 ?_
        refine r_iload_n rfl 38 rfl d_HB_shake_37 ?_
        refine r_callV1 (st2 := [.int ((σ 4) (6 * pN + qN))]) (w2 := CW X a ν σ τ) lk_Led_debt ln_HB_98 (c_Led_debt X (pl [2, 3, 4, 5] a) (pl [2, 3, 4, 5] ν) (pl [2, 3, 4, 5] σ) (pl [2, 3, 4, 5] τ)  pN qN (by omega) (by omega)) (by first | decide | omega) rfl rfl (Nat.le_of_ble_eq_true rfl) (Nat.le_of_ble_eq_true rfl) (Nat.le_of_ble_eq_true rfl) [2, 3, 4, 5] rfl rfl 0 rfl rfl rfl rfl rfl 41 rfl d_HB_shake_38 ?_
        refine r_aload_n rfl 42 rfl d_HB_shake_41 ?_
        refine r_getf (v := .ref (a 1)) gf_HB_12 0 rfl rfl 45 rfl d_HB_shake_42 ?_
        refine r_aload_n rfl 46 rfl d_HB_shake_45 ?_
        refine r_callVA1 (st2 := [.ref (a (40 + 4 * ν 1 10)), .ref (a 1), .int ((σ 4) (6 * pN + qN))]) (w2 := CW X a ν σ τ) lk_HB_held ln_HB_109 (c_HB_held X a ν σ τ   (hh)) (by first | decide | omega) rfl rfl (Nat.le_of_ble_eq_true rfl) (Nat.le_of_ble_eq_true rfl) (Nat.le_of_ble_eq_true rfl) 0 rfl rfl rfl rfl 49 rfl d_HB_shake_46 ?_
        refine r_iload_n rfl 50 rfl d_HB_shake_49 ?_
        refine r_iload_n rfl 51 rfl d_HB_shake_50 ?_
        refine r_iload_n rfl 52 rfl d_HB_shake_51 ?_
        refine r_aload_n rfl 53 rfl d_HB_shake_52 ?_
        refine r_getf (v := .ref (a 1)) gf_HB_12 0 rfl rfl 56 rfl d_HB_shake_53 ?_
        refine r_getfn (v := .int (nI (ν 1 9))) gf_HB_113 1 rfl rfl 59 rfl d_HB_shake_56 ?_
        refine r_callVAQ (st2 := []) (w2 := []) lk_Mkt_readAs ln_HB_116 (c_C_readAs X a ν σ τ x pN qN sN (ν 1 9) hh hx (by omega) (by omega) (by omega)) (by first | decide | omega) rfl rfl (Nat.le_of_ble_eq_true rfl) (Nat.le_of_ble_eq_true rfl) (Nat.le_of_ble_eq_true rfl) 1 rfl rfl 62 rfl d_HB_shake_59 (fun vv ww hq2 => ?_)
        obtain ⟨rfl, fs2, rfl⟩ := hq2
        refine ⟨rfl, ?_⟩
        show Runs X 7 M_HB_shake 0 0 Q 62 [some (.ref (a 0)), some (.int (nI pN)), some (.int (nI qN)), some (.int (nI sN)), some (.int (rpV (ν 2 3) (nI pN) (nI qN))), none] [.int (rdV x pN qN (σ 6 pN) (σ 7 pN) (σ 8) sN (ν 1 9)), .int ((σ 4) (6 * pN + qN))] 0 0 (CW X a ν (u2 σ 16 fs2) τ)
        refine r_iadd 63 rfl d_HB_shake_62 ?_
        refine r_istore (ls2 := [some (.ref (a 0)), some (.int (nI pN)), some (.int (nI qN)), some (.int (nI sN)), some (.int (rpV (ν 2 3) (nI pN) (nI qN))), some (.int (((σ 4) (6 * pN + qN)) + (rdV x pN qN (σ 6 pN) (σ 7 pN) (σ 8) sN (ν 1 9))))]) 65 rfl d_HB_shake_63 (by decide) rfl rfl ?_
        refine r_aload_n rfl 66 rfl d_HB_shake_65 ?_
        refine r_getf (v := .ref (a 1)) gf_HB_12 0 rfl rfl 69 rfl d_HB_shake_66 ?_
        refine r_getfn (v := .ref (a 2)) gf_HB_49 1 rfl rfl 72 rfl d_HB_shake_69 ?_
        refine r_iload_n rfl 73 rfl d_HB_shake_72 ?_
        refine r_iload_n rfl 74 rfl d_HB_shake_73 ?_
        refine r_iload rfl 76 rfl d_HB_shake_74 ?_
        refine r_sipush (nI 9999) rfl 79 rfl d_HB_shake_76 ?_
        refine r_mmin (inTB 468 (by decide +kernel) rfl) (by first | decide | omega) (Nat.le_of_ble_eq_true rfl) (Nat.le_of_ble_eq_true rfl) (Nat.le_of_ble_eq_true rfl) 82 rfl d_HB_shake_79 ?_
        refine r_topi (shakeV x (σ 6) (σ 7) (σ 8) (σ 4) (ν 1 9) (nI pN) (nI qN) (nI sN)) (by unfold shakeV; rw [epN, eqN, esN]; exact mn_comm _ _) ?_
        refine r_callV1 (st2 := []) (w2 := CW X a ν (u2 (u2 σ 16 fs2) 4 (upd (σ 4) (6 * pN + qN) (shakeV x (σ 6) (σ 7) (σ 8) (σ 4) (ν 1 9) (nI pN) (nI qN) (nI sN)))) τ) lk_Led_setDebt ln_HB_101 (c_Led_setDebt X (pl [2, 3, 4, 5] a) (pl [2, 3, 4, 5] ν) (pl [2, 3, 4, 5] (u2 σ 16 fs2)) (pl [2, 3, 4, 5] τ)  pN qN (shakeV x (σ 6) (σ 7) (σ 8) (σ 4) (ν 1 9) (nI pN) (nI qN) (nI sN)) (by omega) (by omega)) (by first | decide | omega) rfl rfl (Nat.le_of_ble_eq_true rfl) (Nat.le_of_ble_eq_true rfl) (Nat.le_of_ble_eq_true rfl) [2, 3, 4, 5] rfl rfl 0 rfl rfl rfl rfl rfl 85 rfl d_HB_shake_82 ?_
        refine r_aload_n rfl 86 rfl d_HB_shake_85 ?_
        refine r_getf (v := .ref (a 1)) gf_HB_12 0 rfl rfl 89 rfl d_HB_shake_86 ?_
        refine r_getfn (v := .ref (a 2)) gf_HB_49 1 rfl rfl 92 rfl d_HB_shake_89 ?_
        refine r_iload_n rfl 93 rfl d_HB_shake_92 ?_
        refine r_iload_n rfl 94 rfl d_HB_shake_93 ?_
        refine r_callV1 (st2 := [.int ((upd (σ 4) (6 * pN + qN) (shakeV x (σ 6) (σ 7) (σ 8) (σ 4) (ν 1 9) (nI pN) (nI qN) (nI sN))) (6 * pN + qN))]) (w2 := CW X a ν (u2 (u2 σ 16 fs2) 4 (upd (σ 4) (6 * pN + qN) (shakeV x (σ 6) (σ 7) (σ 8) (σ 4) (ν 1 9) (nI pN) (nI qN) (nI sN)))) τ) lk_Led_debt ln_HB_98 (c_Led_debt X (pl [2, 3, 4, 5] a) (pl [2, 3, 4, 5] ν) (pl [2, 3, 4, 5] (u2 (u2 σ 16 fs2) 4 (upd (σ 4) (6 * pN + qN) (shakeV x (σ 6) (σ 7) (σ 8) (σ 4) (ν 1 9) (nI pN) (nI qN) (nI sN))))) (pl [2, 3, 4, 5] τ)  pN qN (by omega) (by omega)) (by first | decide | omega) rfl rfl (Nat.le_of_ble_eq_true rfl) (Nat.le_of_ble_eq_true rfl) (Nat.le_of_ble_eq_true rfl) [2, 3, 4, 5] rfl rfl 0 rfl rfl rfl rfl rfl 97 rfl d_HB_shake_94 ?_
        refine r_topi (shakeV x (σ 6) (σ 7) (σ 8) (σ 4) (ν 1 9) (nI pN) (nI qN) (nI sN)) (pk_us) ?_
        exact r_iret rfl (Nat.zero_le _) (Nat.zero_le _) d_HB_shake_97 (by rw [← hQ]; exact ⟨by simp [R_shake, epN, eqN, bp, bq, hnI, mpN, r_s, esN], fs2, by simp [b_shake, epN, eqN, bp, bq, hnI, mpN, r_s, esN]; rfl⟩)
      · have r_s : inR s (nI 0) (nI 99) = false := inR_gt (Int32.not_le.mp h23)
        refine r_bipush ((-2)) rfl 28 rfl d_HB_shake_26 ?_
        exact r_iret rfl (Nat.zero_le _) (Nat.zero_le _) d_HB_shake_28 (by rw [← hQ]; exact ⟨by simp [R_shake, epN, eqN, bp, bq, hnI, mpN, h17, h23, r_s], σ 16, by simp [b_shake, epN, eqN, bp, bq, hnI, mpN, h17, h23, r_s, u2_self]⟩)
  · have pair : ¬ rpV (ν 2 3) p q = 0 := h10
    refine r_iload rfl 15 rfl d_HB_shake_13 ?_
    exact r_iret rfl (Nat.zero_le _) (Nat.zero_le _) d_HB_shake_15 (by rw [← hQ]; exact ⟨by rw [R_shake, rpE, if_neg pair], σ 16, by rw [if_neg (fun z => by rw [b_shake, b_pair_f pair] at z; cases z), u2_self]⟩)
theorem c_HB_between (X : Xn) (a : Nat → Nat) (ν : Nat → Nat → Nat) (σ : Nat → Nat → Int32) (τ : Nat → Nat → Int64) (x : EX) (p : Int32) (q : Int32) (w : Int32) (hn6 : ν 2 3 ≤ 6) (hd : ν 1 9 ≤ 9999) (hh : ν 1 10 ≤ 6) (hx : heldC (ν (40 + 4 * ν 1 10) 4) (ν (40 + 4 * ν 1 10) 5) (σ (41 + 4 * ν 1 10)) (σ (42 + 4 * ν 1 10)) (σ (43 + 4 * ν 1 10)) x) : Does X 8 M_HB_between [.ref (a 0), .int p, .int q, .int w] (CW X a ν σ τ) 0 0 (fun (vv : Option Value) (ww : va_W) => vv = some (.int (R_between (ν 2 3) x (σ 6) (σ 7) (σ 8) (σ 4) (ν 1 9) p q w)) ∧ ∃ sm fs : Nat → Int32, ww = CW X a ν (u2 (u2 σ 15 sm) 16 fs) τ) := by
  generalize hQ : (fun (vv : Option Value) (ww : va_W) => vv = some (.int (R_between (ν 2 3) x (σ 6) (σ 7) (σ 8) (σ 4) (ν 1 9) p q w)) ∧ ∃ sm fs : Nat → Int32, ww = CW X a ν (u2 (u2 σ 15 sm) 16 fs) τ) = Q
  refine Does.go rfl (Nat.le_of_ble_eq_true rfl) [some (.ref (a 0)), some (.int p), some (.int q), some (.int w), none] 1 rfl ?_
  refine r_iload_n rfl 1 rfl d_HB_between_0 ?_
  refine r_if_lt 4 9 rfl rfl d_HB_between_1 (fun h1 => ?_) (fun h1 => ?_)
  · have r_w : inR w (nI 0) (nI 1) = false := inR_lt h1
    refine r_iconst ((-1)) rfl 10 rfl d_HB_between_9 ?_
    exact r_iret rfl (Nat.zero_le _) (Nat.zero_le _) d_HB_between_10 (by rw [← hQ]; exact ⟨by simp [R_between, r_w], σ 15, σ 16, by rw [u2_self, u2_self]⟩)
  · refine r_iload_n rfl 5 rfl d_HB_between_4 ?_
    refine r_iconst (nI 1) rfl 6 rfl d_HB_between_5 ?_
    refine r_icmp_le 9 11 rfl rfl d_HB_between_6 (fun h6 => ?_) (fun h6 => ?_)
    · have r_w : inR w (nI 0) (nI 1) = true := inR_in h1 (Int32.not_lt.mpr h6)
      obtain ⟨wN, hwN, rfl⟩ := inR_t (by decide) r_w
      have ewN : cn (nI wN) = wN := cn_nI (by omega)
      refine r_aload_n rfl 12 rfl d_HB_between_11 ?_
      refine r_iload_n rfl 13 rfl d_HB_between_12 ?_
      refine r_iload_n rfl 14 rfl d_HB_between_13 ?_
      refine r_callVA1 (st2 := [.int (rpV (ν 2 3) p q)]) (w2 := CW X a ν σ τ) lk_HB_refusedPair ln_HB_95 (c_HB_refusedPair X a ν σ τ  p q (hn6)) (by first | decide | omega) rfl rfl (Nat.le_of_ble_eq_true rfl) (Nat.le_of_ble_eq_true rfl) (Nat.le_of_ble_eq_true rfl) 0 rfl rfl rfl rfl 17 rfl d_HB_between_14 ?_
      refine r_istore (ls2 := [some (.ref (a 0)), some (.int p), some (.int q), some (.int (nI wN)), some (.int (rpV (ν 2 3) p q))]) 19 rfl d_HB_between_17 (by decide) rfl rfl ?_
      refine r_iload rfl 21 rfl d_HB_between_19 ?_
      refine r_if_eq 24 27 rfl rfl d_HB_between_21 (fun h21 => ?_) (fun h21 => ?_)
      · obtain ⟨pN, qN, hpN, hqN, hne, rfl, rfl⟩ := rpV_0 hn6 h21
        have epN : cn (nI pN) = pN := cn_nI (by omega)
        have eqN : cn (nI qN) = qN := cn_nI (by omega)
        have bpq := rpV_b hn6 hpN hqN
        have bp := isB_of hn6 hpN
        have bq := isB_of hn6 hqN
        have hnI := nI_ne (by omega) (by omega) hne
        have mpN : ¬ nI pN = -1 := m1n (by omega)
        refine r_iload_n rfl 28 rfl d_HB_between_27 ?_
        refine r_if_neN wN (by omega) 31 44 rfl rfl d_HB_between_28 (fun h28 => ?_) (fun h28 => ?_)
        · refine r_aload_n rfl 45 rfl d_HB_between_44 ?_
          refine r_getf (v := .ref (a 1)) gf_HB_12 0 rfl rfl 48 rfl d_HB_between_45 ?_
          refine r_aload_n rfl 49 rfl d_HB_between_48 ?_
          refine r_callVA1 (st2 := [.ref (a (40 + 4 * ν 1 10)), .ref (a 1)]) (w2 := CW X a ν σ τ) lk_HB_held ln_HB_109 (c_HB_held X a ν σ τ   (hh)) (by first | decide | omega) rfl rfl (Nat.le_of_ble_eq_true rfl) (Nat.le_of_ble_eq_true rfl) (Nat.le_of_ble_eq_true rfl) 0 rfl rfl rfl rfl 52 rfl d_HB_between_49 ?_
          refine r_iload_n rfl 53 rfl d_HB_between_52 ?_
          refine r_iload_n rfl 54 rfl d_HB_between_53 ?_
          refine r_callVAQ (st2 := []) (w2 := []) lk_Mkt_readAll ln_HB_125 (c_C_readAll X a ν σ τ x pN qN hh hx (by omega) (by omega)) (by first | decide | omega) rfl rfl (Nat.le_of_ble_eq_true rfl) (Nat.le_of_ble_eq_true rfl) (Nat.le_of_ble_eq_true rfl) 1 rfl rfl 57 rfl d_HB_between_54 (fun vv ww hq2 => ?_)
          obtain ⟨rfl, fs3, rfl⟩ := hq2
          refine ⟨rfl, ?_⟩
          show Runs X 8 M_HB_between 0 0 Q 57 [some (.ref (a 0)), some (.int (nI pN)), some (.int (nI qN)), some (.int (nI wN)), some (.int (rpV (ν 2 3) (nI pN) (nI qN)))] [] 0 0 (CW X a ν (u2 (u2 σ 15 (seqA (fun z => rdV x pN qN (σ 6 pN) (σ 7 pN) (σ 8) z (ν 1 9)) (σ 15) 100)) 16 fs3) τ)
          refine r_aload_n rfl 58 rfl d_HB_between_57 ?_
          refine r_getf (v := .ref (a 1)) gf_HB_12 0 rfl rfl 61 rfl d_HB_between_58 ?_
          refine r_callV1 (st2 := [.int (nI (csp (seqA (fun z => rdV x pN qN (σ 6 pN) (σ 7 pN) (σ 8) z (ν 1 9)) (σ 15) 100) 100))]) (w2 := CW X a ν (u2 (u2 σ 15 (seqA (fun z => rdV x pN qN (σ 6 pN) (σ 7 pN) (σ 8) z (ν 1 9)) (σ 15) 100)) 16 fs3) τ) lk_Mkt_span ln_HB_129 (c_Mkt_span X (pl [1, 2, 3, 4, 5, 6, 7, 8, 9, 10, 11, 12, 13, 14, 15, 16] a) (pl [1, 2, 3, 4, 5, 6, 7, 8, 9, 10, 11, 12, 13, 14, 15, 16] ν) (pl [1, 2, 3, 4, 5, 6, 7, 8, 9, 10, 11, 12, 13, 14, 15, 16] (u2 (u2 σ 15 (seqA (fun z => rdV x pN qN (σ 6 pN) (σ 7 pN) (σ 8) z (ν 1 9)) (σ 15) 100)) 16 fs3)) (pl [1, 2, 3, 4, 5, 6, 7, 8, 9, 10, 11, 12, 13, 14, 15, 16] τ)   ) (by first | decide | omega) rfl rfl (Nat.le_of_ble_eq_true rfl) (Nat.le_of_ble_eq_true rfl) (Nat.le_of_ble_eq_true rfl) [1, 2, 3, 4, 5, 6, 7, 8, 9, 10, 11, 12, 13, 14, 15, 16] rfl rfl 0 rfl rfl rfl rfl rfl 64 rfl d_HB_between_61 ?_
          exact r_iret rfl (Nat.zero_le _) (Nat.zero_le _) d_HB_between_64 (by rw [← hQ]; exact ⟨by rw [R_between, if_pos bpq, if_pos r_w, if_neg hnI, ewN, if_neg h28, epN, eqN, csp_ext (fun z hz => seqA_at (f := (fun z => rdV x pN qN (σ 6 pN) (σ 7 pN) (σ 8) z (ν 1 9))) (g := σ 15) hz) 100 (Nat.le_refl _), csp_sp 100 (Nat.le_refl _)], _, _, rfl⟩)
        · refine r_aload_n rfl 32 rfl d_HB_between_31 ?_
          refine r_getf (v := .ref (a 1)) gf_HB_12 0 rfl rfl 35 rfl d_HB_between_32 ?_
          refine r_getfn (v := .ref (a 2)) gf_HB_49 1 rfl rfl 38 rfl d_HB_between_35 ?_
          refine r_iload_n rfl 39 rfl d_HB_between_38 ?_
          refine r_iload_n rfl 40 rfl d_HB_between_39 ?_
          refine r_callV1 (st2 := [.int ((σ 4) (6 * pN + qN))]) (w2 := CW X a ν σ τ) lk_Led_debt ln_HB_98 (c_Led_debt X (pl [2, 3, 4, 5] a) (pl [2, 3, 4, 5] ν) (pl [2, 3, 4, 5] σ) (pl [2, 3, 4, 5] τ)  pN qN (by omega) (by omega)) (by first | decide | omega) rfl rfl (Nat.le_of_ble_eq_true rfl) (Nat.le_of_ble_eq_true rfl) (Nat.le_of_ble_eq_true rfl) [2, 3, 4, 5] rfl rfl 0 rfl rfl rfl rfl rfl 43 rfl d_HB_between_40 ?_
          exact r_iret rfl (Nat.zero_le _) (Nat.zero_le _) d_HB_between_43 (by rw [← hQ]; exact ⟨by rw [R_between, if_pos bpq, if_pos r_w, if_neg hnI, ewN, if_pos h28, epN, eqN], σ 15, σ 16, by rw [u2_self, u2_self]⟩)
      · have pair : ¬ rpV (ν 2 3) p q = 0 := h21
        refine r_iload rfl 26 rfl d_HB_between_24 ?_
        exact r_iret rfl (Nat.zero_le _) (Nat.zero_le _) d_HB_between_26 (by rw [← hQ]; exact ⟨by rw [R_between, r_w, if_pos rfl, rpE, if_neg pair], σ 15, σ 16, by rw [u2_self, u2_self]⟩)
    · have r_w : inR w (nI 0) (nI 1) = false := inR_gt (Int32.not_le.mp h6)
      refine r_iconst ((-1)) rfl 10 rfl d_HB_between_9 ?_
      exact r_iret rfl (Nat.zero_le _) (Nat.zero_le _) d_HB_between_10 (by rw [← hQ]; exact ⟨by simp [R_between, r_w], σ 15, σ 16, by rw [u2_self, u2_self]⟩)
set_option maxHeartbeats 8000000 in
theorem c_HB_squeezes (X : Xn) (a : Nat → Nat) (ν : Nat → Nat → Nat) (σ : Nat → Nat → Int32) (τ : Nat → Nat → Int64) (x : EX) (p : Int32) (q : Int32) (s : Int32) (w : Int32) (hn6 : ν 2 3 ≤ 6) (hd : ν 1 9 ≤ 9999) (hh : ν 1 10 ≤ 6) (hx : heldC (ν (40 + 4 * ν 1 10) 4) (ν (40 + 4 * ν 1 10) 5) (σ (41 + 4 * ν 1 10)) (σ (42 + 4 * ν 1 10)) (σ (43 + 4 * ν 1 10)) x) : Does X 8 M_HB_squeezes [.ref (a 0), .int p, .int q, .int s, .int w] (CW X a ν σ τ) 0 0 (fun (vv : Option Value) (ww : va_W) => vv = some (.int (R_squeezes (ν 2 3) x (σ 6) (σ 7) (σ 8) (ν 1 9) p q s w)) ∧ ∃ sm fs : Nat → Int32, ww = CW X a ν (u2 (u2 σ 15 sm) 16 fs) τ) := by
  generalize hQ : (fun (vv : Option Value) (ww : va_W) => vv = some (.int (R_squeezes (ν 2 3) x (σ 6) (σ 7) (σ 8) (ν 1 9) p q s w)) ∧ ∃ sm fs : Nat → Int32, ww = CW X a ν (u2 (u2 σ 15 sm) 16 fs) τ) = Q
  refine Does.go rfl (Nat.le_of_ble_eq_true rfl) [some (.ref (a 0)), some (.int p), some (.int q), some (.int s), some (.int w), none] 1 rfl ?_
  refine r_iload rfl 2 rfl d_HB_squeezes_0 ?_
  refine r_if_lt 5 11 rfl rfl d_HB_squeezes_2 (fun h2 => ?_) (fun h2 => ?_)
  · have r_w : inR w (nI 0) (nI 1) = false := inR_lt h2
    refine r_iconst ((-1)) rfl 12 rfl d_HB_squeezes_11 ?_
    exact r_iret rfl (Nat.zero_le _) (Nat.zero_le _) d_HB_squeezes_12 (by rw [← hQ]; exact ⟨by simp [R_squeezes, r_w], σ 15, σ 16, by rw [u2_self, u2_self]⟩)
  · refine r_iload rfl 7 rfl d_HB_squeezes_5 ?_
    refine r_iconst (nI 1) rfl 8 rfl d_HB_squeezes_7 ?_
    refine r_icmp_le 11 13 rfl rfl d_HB_squeezes_8 (fun h8 => ?_) (fun h8 => ?_)
    · have r_w : inR w (nI 0) (nI 1) = true := inR_in h2 (Int32.not_lt.mpr h8)
      obtain ⟨wN, hwN, rfl⟩ := inR_t (by decide) r_w
      have ewN : cn (nI wN) = wN := cn_nI (by omega)
      refine r_aload_n rfl 14 rfl d_HB_squeezes_13 ?_
      refine r_iload_n rfl 15 rfl d_HB_squeezes_14 ?_
      refine r_iload_n rfl 16 rfl d_HB_squeezes_15 ?_
      refine r_callVA1 (st2 := [.int (rpV (ν 2 3) p q)]) (w2 := CW X a ν σ τ) lk_HB_refusedPair ln_HB_95 (c_HB_refusedPair X a ν σ τ  p q (hn6)) (by first | decide | omega) rfl rfl (Nat.le_of_ble_eq_true rfl) (Nat.le_of_ble_eq_true rfl) (Nat.le_of_ble_eq_true rfl) 0 rfl rfl rfl rfl 19 rfl d_HB_squeezes_16 ?_
      refine r_istore (ls2 := [some (.ref (a 0)), some (.int p), some (.int q), some (.int s), some (.int (nI wN)), some (.int (rpV (ν 2 3) p q))]) 21 rfl d_HB_squeezes_19 (by decide) rfl rfl ?_
      refine r_iload rfl 23 rfl d_HB_squeezes_21 ?_
      refine r_if_eq 26 29 rfl rfl d_HB_squeezes_23 (fun h23 => ?_) (fun h23 => ?_)
      · obtain ⟨pN, qN, hpN, hqN, hne, rfl, rfl⟩ := rpV_0 hn6 h23
        have epN : cn (nI pN) = pN := cn_nI (by omega)
        have eqN : cn (nI qN) = qN := cn_nI (by omega)
        have bpq := rpV_b hn6 hpN hqN
        have bp := isB_of hn6 hpN
        have bq := isB_of hn6 hqN
        have hnI := nI_ne (by omega) (by omega) hne
        have mpN : ¬ nI pN = -1 := m1n (by omega)
        refine r_iload_n rfl 30 rfl d_HB_squeezes_29 ?_
        refine r_iconst (nI 1) rfl 31 rfl d_HB_squeezes_30 ?_
        refine r_icmp_lt 34 41 rfl rfl d_HB_squeezes_31 (fun h31 => ?_) (fun h31 => ?_)
        · have r_s : inR s (nI 1) (nI 999) = false := inR_lt h31
          refine r_bipush ((-2)) rfl 43 rfl d_HB_squeezes_41 ?_
          exact r_iret rfl (Nat.zero_le _) (Nat.zero_le _) d_HB_squeezes_43 (by rw [← hQ]; exact ⟨by rw [R_squeezes, if_pos bpq, if_pos r_w, if_neg hnI, if_neg (by rw [r_s]; decide)], σ 15, σ 16, by rw [u2_self, u2_self]⟩)
        · refine r_iload_n rfl 35 rfl d_HB_squeezes_34 ?_
          refine r_sipush (nI 999) rfl 38 rfl d_HB_squeezes_35 ?_
          refine r_icmp_le 41 44 rfl rfl d_HB_squeezes_38 (fun h38 => ?_) (fun h38 => ?_)
          · have r_s : inR s (nI 1) (nI 999) = true := inR_in h31 (Int32.not_lt.mpr h38)
            refine r_aload_n rfl 45 rfl d_HB_squeezes_44 ?_
            refine r_getf (v := .ref (a 1)) gf_HB_12 0 rfl rfl 48 rfl d_HB_squeezes_45 ?_
            refine r_aload_n rfl 49 rfl d_HB_squeezes_48 ?_
            refine r_callVA1 (st2 := [.ref (a (40 + 4 * ν 1 10)), .ref (a 1)]) (w2 := CW X a ν σ τ) lk_HB_held ln_HB_109 (c_HB_held X a ν σ τ   (hh)) (by first | decide | omega) rfl rfl (Nat.le_of_ble_eq_true rfl) (Nat.le_of_ble_eq_true rfl) (Nat.le_of_ble_eq_true rfl) 0 rfl rfl rfl rfl 52 rfl d_HB_squeezes_49 ?_
            refine r_iload_n rfl 53 rfl d_HB_squeezes_52 ?_
            refine r_iload_n rfl 54 rfl d_HB_squeezes_53 ?_
            refine r_callVAQ (st2 := []) (w2 := []) lk_Mkt_readAll ln_HB_125 (c_C_readAll X a ν σ τ x pN qN hh hx (by omega) (by omega)) (by first | decide | omega) rfl rfl (Nat.le_of_ble_eq_true rfl) (Nat.le_of_ble_eq_true rfl) (Nat.le_of_ble_eq_true rfl) 1 rfl rfl 57 rfl d_HB_squeezes_54 (fun vv ww hq2 => ?_)
            obtain ⟨rfl, fs4, rfl⟩ := hq2
            refine ⟨rfl, ?_⟩
            show Runs X 8 M_HB_squeezes 0 0 Q 57 [some (.ref (a 0)), some (.int (nI pN)), some (.int (nI qN)), some (.int s), some (.int (nI wN)), some (.int (rpV (ν 2 3) (nI pN) (nI qN)))] [] 0 0 (CW X a ν (u2 (u2 σ 15 (seqA (fun z => rdV x pN qN (σ 6 pN) (σ 7 pN) (σ 8) z (ν 1 9)) (σ 15) 100)) 16 fs4) τ)
            refine r_iload rfl 59 rfl d_HB_squeezes_57 ?_
            refine r_if_neN wN (by omega) 62 73 rfl rfl d_HB_squeezes_59 (fun h59 => ?_) (fun h59 => ?_)
            · refine r_aload_n rfl 74 rfl d_HB_squeezes_73 ?_
              refine r_getf (v := .ref (a 1)) gf_HB_12 0 rfl rfl 77 rfl d_HB_squeezes_74 ?_
              refine r_iload_n rfl 78 rfl d_HB_squeezes_77 ?_
              refine r_callV1 (st2 := [.int (lfF (seqA (fun z => rdV x pN qN (σ 6 pN) (σ 7 pN) (σ 8) z (ν 1 9)) (σ 15) 100) s 100 100)]) (w2 := CW X a ν (u2 (u2 σ 15 (seqA (fun z => rdV x pN qN (σ 6 pN) (σ 7 pN) (σ 8) z (ν 1 9)) (σ 15) 100)) 16 fs4) τ) lk_Mkt_leastFor ln_HB_136 (c_Mkt_leastFor X (pl [1, 2, 3, 4, 5, 6, 7, 8, 9, 10, 11, 12, 13, 14, 15, 16] a) (pl [1, 2, 3, 4, 5, 6, 7, 8, 9, 10, 11, 12, 13, 14, 15, 16] ν) (pl [1, 2, 3, 4, 5, 6, 7, 8, 9, 10, 11, 12, 13, 14, 15, 16] (u2 (u2 σ 15 (seqA (fun z => rdV x pN qN (σ 6 pN) (σ 7 pN) (σ 8) z (ν 1 9)) (σ 15) 100)) 16 fs4)) (pl [1, 2, 3, 4, 5, 6, 7, 8, 9, 10, 11, 12, 13, 14, 15, 16] τ)  s ) (by first | decide | omega) rfl rfl (Nat.le_of_ble_eq_true rfl) (Nat.le_of_ble_eq_true rfl) (Nat.le_of_ble_eq_true rfl) [1, 2, 3, 4, 5, 6, 7, 8, 9, 10, 11, 12, 13, 14, 15, 16] rfl rfl 0 rfl rfl rfl rfl rfl 81 rfl d_HB_squeezes_78 ?_
              exact r_iret rfl (Nat.zero_le _) (Nat.zero_le _) d_HB_squeezes_81 (by rw [← hQ]; exact ⟨by rw [R_squeezes, if_pos bpq, if_pos r_w, if_neg hnI, if_pos r_s, ewN, epN, eqN, if_neg h59, sq_lf 100 (Nat.le_refl _), lfF_ext 100 (Nat.le_refl _) (fun z hz => seqA_at (f := (fun z => rdV x pN qN (σ 6 pN) (σ 7 pN) (σ 8) z (ν 1 9))) (g := σ 15) hz)], _, _, rfl⟩)
            · refine r_aload_n rfl 63 rfl d_HB_squeezes_62 ?_
              refine r_getf (v := .ref (a 1)) gf_HB_12 0 rfl rfl 66 rfl d_HB_squeezes_63 ?_
              refine r_iload_n rfl 67 rfl d_HB_squeezes_66 ?_
              refine r_callV1 (st2 := [.int (nI (cu (seqA (fun z => rdV x pN qN (σ 6 pN) (σ 7 pN) (σ 8) z (ν 1 9)) (σ 15) 100) s 100))]) (w2 := CW X a ν (u2 (u2 σ 15 (seqA (fun z => rdV x pN qN (σ 6 pN) (σ 7 pN) (σ 8) z (ν 1 9)) (σ 15) 100)) 16 fs4) τ) lk_Mkt_squeezesFor ln_HB_133 (c_Mkt_squeezesFor X (pl [1, 2, 3, 4, 5, 6, 7, 8, 9, 10, 11, 12, 13, 14, 15, 16] a) (pl [1, 2, 3, 4, 5, 6, 7, 8, 9, 10, 11, 12, 13, 14, 15, 16] ν) (pl [1, 2, 3, 4, 5, 6, 7, 8, 9, 10, 11, 12, 13, 14, 15, 16] (u2 (u2 σ 15 (seqA (fun z => rdV x pN qN (σ 6 pN) (σ 7 pN) (σ 8) z (ν 1 9)) (σ 15) 100)) 16 fs4)) (pl [1, 2, 3, 4, 5, 6, 7, 8, 9, 10, 11, 12, 13, 14, 15, 16] τ)  s ) (by first | decide | omega) rfl rfl (Nat.le_of_ble_eq_true rfl) (Nat.le_of_ble_eq_true rfl) (Nat.le_of_ble_eq_true rfl) [1, 2, 3, 4, 5, 6, 7, 8, 9, 10, 11, 12, 13, 14, 15, 16] rfl rfl 0 rfl rfl rfl rfl rfl 70 rfl d_HB_squeezes_67 ?_
              refine r_goto 81 rfl d_HB_squeezes_70 ?_
              exact r_iret rfl (Nat.zero_le _) (Nat.zero_le _) d_HB_squeezes_81 (by rw [← hQ]; exact ⟨by rw [R_squeezes, if_pos bpq, if_pos r_w, if_neg hnI, if_pos r_s, ewN, epN, eqN, if_pos h59, sq_cu0, cu_ext 100 (fun z hz => seqA_at (f := (fun z => rdV x pN qN (σ 6 pN) (σ 7 pN) (σ 8) z (ν 1 9))) (g := σ 15) hz)], _, _, rfl⟩)
          · have r_s : inR s (nI 1) (nI 999) = false := inR_gt (Int32.not_le.mp h38)
            refine r_bipush ((-2)) rfl 43 rfl d_HB_squeezes_41 ?_
            exact r_iret rfl (Nat.zero_le _) (Nat.zero_le _) d_HB_squeezes_43 (by rw [← hQ]; exact ⟨by rw [R_squeezes, if_pos bpq, if_pos r_w, if_neg hnI, if_neg (by rw [r_s]; decide)], σ 15, σ 16, by rw [u2_self, u2_self]⟩)
      · have pair : ¬ rpV (ν 2 3) p q = 0 := h23
        refine r_iload rfl 28 rfl d_HB_squeezes_26 ?_
        exact r_iret rfl (Nat.zero_le _) (Nat.zero_le _) d_HB_squeezes_28 (by rw [← hQ]; exact ⟨by rw [R_squeezes, r_w, if_pos rfl, rpE, if_neg pair], σ 15, σ 16, by rw [u2_self, u2_self]⟩)
    · have r_w : inR w (nI 0) (nI 1) = false := inR_gt (Int32.not_le.mp h8)
      refine r_iconst ((-1)) rfl 12 rfl d_HB_squeezes_11 ?_
      exact r_iret rfl (Nat.zero_le _) (Nat.zero_le _) d_HB_squeezes_12 (by rw [← hQ]; exact ⟨by simp [R_squeezes, r_w], σ 15, σ 16, by rw [u2_self, u2_self]⟩)
theorem c_HB_wrong (X : Xn) (a : Nat → Nat) (ν : Nat → Nat → Nat) (σ : Nat → Nat → Int32) (τ : Nat → Nat → Int64) (x : EX)  (hd : ν 1 9 < 90000) (hh : ν 1 10 ≤ 6) (hx : heldC (ν (40 + 4 * ν 1 10) 4) (ν (40 + 4 * ν 1 10) 5) (σ (41 + 4 * ν 1 10)) (σ (42 + 4 * ν 1 10)) (σ (43 + 4 * ν 1 10)) x) (hse : seenOk (σ 10) (ν 9 1)) : Does X 7 M_HB_wrong [.ref (a 0)] (CW X a ν σ τ) 0 0 (fun (vv : Option Value) (ww : va_W) => vv = some (.int (wrF (fun z => soC x (σ 6) (σ 8) (ν 1 9) (σ 10) z (σ 7 (cn (σ 10 (5 * z + 0))))) (ν 9 1) (ν 9 1))) ∧ ∃ fs : Nat → Int32, ww = CW X a ν (u2 (σ) 16 fs) τ) := by
  generalize hQ : (fun (vv : Option Value) (ww : va_W) => vv = some (.int (wrF (fun z => soC x (σ 6) (σ 8) (ν 1 9) (σ 10) z (σ 7 (cn (σ 10 (5 * z + 0))))) (ν 9 1) (ν 9 1))) ∧ ∃ fs : Nat → Int32, ww = CW X a ν (u2 (σ) 16 fs) τ) = Q
  refine Does.go rfl (Nat.le_of_ble_eq_true rfl) [some (.ref (a 0)), none] 1 rfl ?_
  have h5 := hse.1
  refine r_iconst (nI 0) rfl 1 rfl d_HB_wrong_0 ?_
  refine r_istore_n (ls2 := [some (.ref (a 0)), some (.int (nI 0))]) 2 rfl d_HB_wrong_1 (by decide) rfl rfl ?_
  have L2_1 : ∀ (f : Nat) (i : Nat) (fs : Nat → Int32), (i ≤ ν 9 1) → (wrF (fun z => soC x (σ 6) (σ 8) (ν 1 9) (σ 10) z (σ 7 (cn (σ 10 (5 * z + 0))))) (ν 9 1) (ν 9 1 - i) = wrF (fun z => soC x (σ 6) (σ 8) (ν 1 9) (σ 10) z (σ 7 (cn (σ 10 (5 * z + 0))))) (ν 9 1) (ν 9 1)) → ν 9 1 - i < f → Runs X 7 M_HB_wrong 0 0 Q 2 [some (.ref (a 0)), some (.int (nI i))] [] 0 0 (CW X a ν (u2 σ 16 fs) τ) := by
    intro f
    induction f with
    | zero => intro i fs hi hr hmu; exact absurd hmu (Nat.not_lt_zero _)
    | succ f ih2 =>
      intro i fs hi hr hmu
      refine r_iload_n rfl 3 rfl d_HB_wrong_2 ?_
      refine r_aload_n rfl 4 rfl d_HB_wrong_3 ?_
      refine r_getf (v := .ref (a 1)) gf_HB_12 0 rfl rfl 7 rfl d_HB_wrong_4 ?_
      refine r_getfn (v := .ref (a 9)) gf_HB_175 1 rfl rfl 10 rfl d_HB_wrong_7 ?_
      refine r_getfn (v := .int (nI (ν 9 1))) gf_HB_179 9 rfl rfl 13 rfl d_HB_wrong_10 ?_
      refine r_icmp_geN i (ν 9 1) (by omega) (by omega) 16 61 rfl rfl d_HB_wrong_13 (fun h13 => ?_) (fun h13 => ?_)
      · refine r_bipush ((-5)) rfl 63 rfl d_HB_wrong_61 ?_
        exact r_iret rfl (Nat.zero_le _) (Nat.zero_le _) d_HB_wrong_63 (by rw [← hQ]; exact ⟨by rw [← hr, show ν 9 1 - i = 0 by omega]; rfl, _, rfl⟩)
      · obtain ⟨P, R, S0, D0, hP, hR, hS0, hD0, e0, e1, e2, e3⟩ := hse.2 i (by omega)
        refine r_aload_n rfl 17 rfl d_HB_wrong_16 ?_
        refine r_getf (v := .ref (a 1)) gf_HB_12 0 rfl rfl 20 rfl d_HB_wrong_17 ?_
        refine r_aload_n rfl 21 rfl d_HB_wrong_20 ?_
        refine r_callVA1 (st2 := [.ref (a (40 + 4 * ν 1 10)), .ref (a 1)]) (w2 := CW X a ν (u2 σ 16 fs) τ) lk_HB_held ln_HB_109 (c_HB_held X a ν (u2 σ 16 fs) τ   (hh)) (by first | decide | omega) rfl rfl (Nat.le_of_ble_eq_true rfl) (Nat.le_of_ble_eq_true rfl) (Nat.le_of_ble_eq_true rfl) 0 rfl rfl rfl rfl 24 rfl d_HB_wrong_21 ?_
        refine r_iload_n rfl 25 rfl d_HB_wrong_24 ?_
        refine r_aload_n rfl 26 rfl d_HB_wrong_25 ?_
        refine r_getf (v := .ref (a 1)) gf_HB_12 0 rfl rfl 29 rfl d_HB_wrong_26 ?_
        refine r_getfn (v := .ref (a 7)) gf_HB_73 1 rfl rfl 32 rfl d_HB_wrong_29 ?_
        refine r_aload_n rfl 33 rfl d_HB_wrong_32 ?_
        refine r_getf (v := .ref (a 1)) gf_HB_12 0 rfl rfl 36 rfl d_HB_wrong_33 ?_
        refine r_getfn (v := .ref (a 9)) gf_HB_175 1 rfl rfl 39 rfl d_HB_wrong_36 ?_
        refine r_iload_n rfl 40 rfl d_HB_wrong_39 ?_
        refine r_iconst (nI 0) rfl 41 rfl d_HB_wrong_40 ?_
        refine r_callV1 (st2 := [.int ((σ 10) (5 * i + 0)), .ref (a 7), .int (nI i), .ref (a (40 + 4 * ν 1 10)), .ref (a 1)]) (w2 := CW X a ν (u2 σ 16 fs) τ) lk_Rws_cell ln_HB_186 (c_Rws_cell X 25 (pl [9, 10] a) (pl [9, 10] ν) (pl [9, 10] (u2 σ 16 fs)) (pl [9, 10] τ)  i 0 (by omega) (by decide)) (by first | decide | omega) rfl rfl (Nat.le_of_ble_eq_true rfl) (Nat.le_of_ble_eq_true rfl) (Nat.le_of_ble_eq_true rfl) [9, 10] rfl rfl 0 rfl rfl rfl rfl rfl 44 rfl d_HB_wrong_41 ?_
        refine r_topi (nI (P)) (e0) ?_
        refine r_callS1 (st2 := [.int (σ 7 P), .int (nI i), .ref (a (40 + 4 * ν 1 10)), .ref (a 1)]) (w2 := CW X a ν (u2 σ 16 fs) τ) lk_HB_at ln_HB_69 (c_at X _ 6 P (σ 7) (by omega) (by decide)) (by first | decide | omega) rfl rfl (Nat.le_of_ble_eq_true rfl) (Nat.le_of_ble_eq_true rfl) (Nat.le_of_ble_eq_true rfl) [7] rfl rfl rfl rfl rfl 47 rfl d_HB_wrong_44 ?_
        refine r_callVAQ (st2 := []) (w2 := []) lk_Mkt_seenIsSo ln_HB_189 (c_C_seenIsSo X a ν (u2 σ 16 fs) τ x i (σ 7 P) hh (hx_u2 hx (by decide)) hse hd (by omega)) (by first | decide | omega) rfl rfl (Nat.le_of_ble_eq_true rfl) (Nat.le_of_ble_eq_true rfl) (Nat.le_of_ble_eq_true rfl) 1 rfl rfl 50 rfl d_HB_wrong_47 (fun vv ww hq2 => ?_)
        obtain ⟨rfl, fs5, rfl⟩ := hq2
        refine ⟨rfl, ?_⟩
        show Runs X 7 M_HB_wrong 0 0 Q 50 [some (.ref (a 0)), some (.int (nI i))] [.int (bI (soC x (σ 6) (σ 8) (ν 1 9) (σ 10) i (σ 7 P)))] 0 0 (CW X a ν (u2 σ 16 fs5) τ)
        refine r_if_neB 53 55 rfl rfl d_HB_wrong_50 (fun h50 => ?_) (fun h50 => ?_)
        · refine r_iinc (ls2 := [some (.ref (a 0)), some (.int (nI (i + 1)))]) (nI (i + 1)) rfl (nI_1 _) 58 rfl d_HB_wrong_55 (by decide) rfl rfl ?_
          refine r_goto 2 rfl d_HB_wrong_58 ?_
          exact ih2 (i + 1) fs5 (by omega) (by rw [← hr, wrF_s (show i < ν 9 1 by omega), if_pos (by rw [e0, cn_nI (by omega)]; exact h50)]) (by omega)
        · refine r_iload_n rfl 54 rfl d_HB_wrong_53 ?_
          exact r_iret rfl (Nat.zero_le _) (Nat.zero_le _) d_HB_wrong_54 (by rw [← hQ]; exact ⟨by rw [← hr, wrF_s (show i < ν 9 1 by omega), if_neg (by rw [e0, cn_nI (by omega), h50]; decide)], _, rfl⟩)
  refine Runs.cast (L2_1 _ 0 (σ 16) (Nat.zero_le _) (rfl) (Nat.lt_succ_self _)) (rfl) rfl (by rw [u2_self])
theorem c_HB_can (X : Xn) (a : Nat → Nat) (ν : Nat → Nat → Nat) (σ : Nat → Nat → Int32) (τ : Nat → Nat → Int64) (x : EX) (p : Int32) (w : Int32) (hn6 : ν 2 3 ≤ 6) (hd : ν 1 9 < 90000) (hh : ν 1 10 ≤ 6) (hx : heldC (ν (40 + 4 * ν 1 10) 4) (ν (40 + 4 * ν 1 10) 5) (σ (41 + 4 * ν 1 10)) (σ (42 + 4 * ν 1 10)) (σ (43 + 4 * ν 1 10)) x) (hse : seenOk (σ 10) (ν 9 1)) : Does X 8 M_HB_can [.ref (a 0), .int p, .int w] (CW X a ν σ τ) 0 0 (fun (vv : Option Value) (ww : va_W) => vv = some (.int (R_can (ν 2 3) x (σ 6) (σ 7) (σ 8) (ν 1 9) (col (σ 10) 0) (col (σ 10) 1) (col (σ 10) 2) (col (σ 10) 3) (col (σ 10) 4) (ν 9 1) p w)) ∧ ∃ fs : Nat → Int32, ww = CW X a ν (u2 (σ) 16 fs) τ) := by
  generalize hQ : (fun (vv : Option Value) (ww : va_W) => vv = some (.int (R_can (ν 2 3) x (σ 6) (σ 7) (σ 8) (ν 1 9) (col (σ 10) 0) (col (σ 10) 1) (col (σ 10) 2) (col (σ 10) 3) (col (σ 10) 4) (ν 9 1) p w)) ∧ ∃ fs : Nat → Int32, ww = CW X a ν (u2 (σ) 16 fs) τ) = Q
  refine Does.go rfl (Nat.le_of_ble_eq_true rfl) [some (.ref (a 0)), some (.int p), some (.int w), none, none, none] 3 rfl ?_
  refine r_aload_n rfl 1 rfl d_HB_can_0 ?_
  refine r_iload_n rfl 2 rfl d_HB_can_1 ?_
  refine r_callVA1 (st2 := [.int (bI (isB (ν 2 3) p))]) (w2 := CW X a ν σ τ) lk_HB_isTrader ln_HB_60 (c_HB_isTrader X a ν σ τ  p (hn6)) (by first | decide | omega) rfl rfl (Nat.le_of_ble_eq_true rfl) (Nat.le_of_ble_eq_true rfl) (Nat.le_of_ble_eq_true rfl) 0 rfl rfl rfl rfl 5 rfl d_HB_can_2 ?_
  refine r_if_eqB 8 17 rfl rfl d_HB_can_5 (fun h5 => ?_) (fun h5 => ?_)
  · refine r_iconst ((-1)) rfl 18 rfl d_HB_can_17 ?_
    exact r_iret rfl (Nat.zero_le _) (Nat.zero_le _) d_HB_can_18 (by rw [← hQ]; exact ⟨by simp [R_can, h5], σ 16, by rw [u2_self]⟩)
  · obtain ⟨pN, hpN, rfl⟩ := isB_t hn6 h5
    have epN : cn (nI pN) = pN := cn_nI (by omega)
    have bp := isB_of hn6 hpN
    refine r_iload_n rfl 9 rfl d_HB_can_8 ?_
    refine r_if_lt 12 17 rfl rfl d_HB_can_9 (fun h9 => ?_) (fun h9 => ?_)
    · have r_w : inR w (nI 0) (nI 1) = false := inR_lt h9
      refine r_iconst ((-1)) rfl 18 rfl d_HB_can_17 ?_
      exact r_iret rfl (Nat.zero_le _) (Nat.zero_le _) d_HB_can_18 (by rw [← hQ]; exact ⟨by simp [R_can, r_w], σ 16, by rw [u2_self]⟩)
    · refine r_iload_n rfl 13 rfl d_HB_can_12 ?_
      refine r_iconst (nI 1) rfl 14 rfl d_HB_can_13 ?_
      refine r_icmp_le 17 19 rfl rfl d_HB_can_14 (fun h14 => ?_) (fun h14 => ?_)
      · have r_w : inR w (nI 0) (nI 1) = true := inR_in h9 (Int32.not_lt.mpr h14)
        obtain ⟨wN, hwN, rfl⟩ := inR_t (by decide) r_w
        have ewN : cn (nI wN) = wN := cn_nI (by omega)
        refine r_iconst (nI 0) rfl 20 rfl d_HB_can_19 ?_
        refine r_istore_n (ls2 := [some (.ref (a 0)), some (.int (nI pN)), some (.int (nI wN)), some (.int (nI 0)), none, none]) 21 rfl d_HB_can_20 (by decide) rfl rfl ?_
        refine r_bipush ((-5)) rfl 23 rfl d_HB_can_21 ?_
        refine r_istore (ls2 := [some (.ref (a 0)), some (.int (nI pN)), some (.int (nI wN)), some (.int (nI 0)), some (.int (-5)), none]) 25 rfl d_HB_can_23 (by decide) rfl rfl ?_
        refine r_bipush (nI 9) rfl 27 rfl d_HB_can_25 ?_
        refine r_istore (ls2 := [some (.ref (a 0)), some (.int (nI pN)), some (.int (nI wN)), some (.int (nI 0)), some (.int (-5)), some (.int (nI 9))]) 29 rfl d_HB_can_27 (by decide) rfl rfl ?_
        have L29_1 : ∀ (f : Nat) (j : Nat) (z : Int32) (fs : Nat → Int32), (j ≤ 10) → (z = nI (10 - j) - 1) → 10 - j < f → Runs X 8 M_HB_can 0 0 Q 29 [some (.ref (a 0)), some (.int (nI pN)), some (.int (nI wN)), some (.int (nI ((cnt9 (okK x (σ 6) (σ 8) (ν 1 9) (σ 10) (ν 9 1) pN) j).1))), some (.int ((cnt9 (okK x (σ 6) (σ 8) (ν 1 9) (σ 10) (ν 9 1) pN) j).2)), some (.int z)] [] 0 0 (CW X a ν (u2 σ 16 fs) τ) := by
          intro f
          induction f with
          | zero => intro j z fs hj hz hmu; exact absurd hmu (Nat.not_lt_zero _)
          | succ f ih2 =>
            intro j z fs hj hz hmu
            refine r_iload rfl 31 rfl d_HB_can_29 ?_
            by_cases hj9 : j = 10
            · obtain rfl : z = -1 := by rw [hz, hj9]; rfl
              refine r_if_lt_t 64 rfl d_HB_can_31 (by decide) ?_
              refine r_iload_n rfl 65 rfl d_HB_can_64 ?_
              refine r_if_neN wN (by omega) 68 72 rfl rfl d_HB_can_65 (fun h65 => ?_) (fun h65 => ?_)
              · refine r_iload rfl 74 rfl d_HB_can_72 ?_
                exact r_iret rfl (Nat.zero_le _) (Nat.zero_le _) d_HB_can_74 (by rw [← hQ]; exact ⟨by rw [R_can, if_pos bp, if_pos r_w, ewN, if_neg h65, epN, ← cnt9_ext (ok := okK x (σ 6) (σ 8) (ν 1 9) (σ 10) (ν 9 1) pN) 10 (Nat.le_refl _) (fun k _ => okK_V (v := σ 7) (by omega)), hj9], _, rfl⟩)
              · refine r_iload_n rfl 69 rfl d_HB_can_68 ?_
                refine r_goto 74 rfl d_HB_can_69 ?_
                exact r_iret rfl (Nat.zero_le _) (Nat.zero_le _) d_HB_can_74 (by rw [← hQ]; exact ⟨by rw [R_can, if_pos bp, if_pos r_w, ewN, if_pos h65, epN, ← cnt9_ext (ok := okK x (σ 6) (σ 8) (ν 1 9) (σ 10) (ν 9 1) pN) 10 (Nat.le_refl _) (fun k _ => okK_V (v := σ 7) (by omega)), hj9], _, rfl⟩)
            · obtain ⟨u, rfl, huj⟩ : ∃ u : Nat, z = nI u ∧ u + j = 9 := ⟨9 - j, by rw [hz, show 10 - j = (9 - j) + 1 by omega]; exact nI_pred _, by omega⟩
              refine r_if_ltN_f u (by omega) 34 rfl 64 rfl d_HB_can_31 (by omega) ?_
              refine r_aload_n rfl 35 rfl d_HB_can_34 ?_
              refine r_getf (v := .ref (a 1)) gf_HB_12 0 rfl rfl 38 rfl d_HB_can_35 ?_
              refine r_aload_n rfl 39 rfl d_HB_can_38 ?_
              refine r_callVA1 (st2 := [.ref (a (40 + 4 * ν 1 10)), .ref (a 1)]) (w2 := CW X a ν (u2 σ 16 fs) τ) lk_HB_held ln_HB_109 (c_HB_held X a ν (u2 σ 16 fs) τ   (hh)) (by first | decide | omega) rfl rfl (Nat.le_of_ble_eq_true rfl) (Nat.le_of_ble_eq_true rfl) (Nat.le_of_ble_eq_true rfl) 0 rfl rfl rfl rfl 42 rfl d_HB_can_39 ?_
              refine r_iload_n rfl 43 rfl d_HB_can_42 ?_
              refine r_iload rfl 45 rfl d_HB_can_43 ?_
              refine r_callVAQ (st2 := []) (w2 := []) lk_Mkt_fitsSeen ln_HB_193 (c_C_fitsSeen X a ν (u2 σ 16 fs) τ x pN (nI u) hh (hx_u2 hx (by decide)) hse hd) (by first | decide | omega) rfl rfl (Nat.le_of_ble_eq_true rfl) (Nat.le_of_ble_eq_true rfl) (Nat.le_of_ble_eq_true rfl) 1 rfl rfl 48 rfl d_HB_can_45 (fun vv ww hq2 => ?_)
              obtain ⟨rfl, fs6, rfl⟩ := hq2
              refine ⟨rfl, ?_⟩
              show Runs X 8 M_HB_can 0 0 Q 48 [some (.ref (a 0)), some (.int (nI pN)), some (.int (nI wN)), some (.int (nI ((cnt9 (okK x (σ 6) (σ 8) (ν 1 9) (σ 10) (ν 9 1) pN) j).1))), some (.int ((cnt9 (okK x (σ 6) (σ 8) (ν 1 9) (σ 10) (ν 9 1) pN) j).2)), some (.int (nI u))] [.int (bI (allU (fun z => soC x (σ 6) (σ 8) (ν 1 9) (σ 10) z (nI u)) (col (σ 10) 0) pN (ν 9 1) (ν 9 1)))] 0 0 (CW X a ν (u2 σ 16 fs6) τ)
              refine r_if_eqB 51 58 rfl rfl d_HB_can_48 (fun h48 => ?_) (fun h48 => ?_)
              · have eC : cnt9 (okK x (σ 6) (σ 8) (ν 1 9) (σ 10) (ν 9 1) pN) (j + 1) = cnt9 (okK x (σ 6) (σ 8) (ν 1 9) (σ 10) (ν 9 1) pN) j := by rw [cnt9, show 9 - j = u by omega]; exact if_neg (fun q => by rw [okK, h48] at q; cases q)
                refine r_iinc (ls2 := [some (.ref (a 0)), some (.int (nI pN)), some (.int (nI wN)), some (.int (nI ((cnt9 (okK x (σ 6) (σ 8) (ν 1 9) (σ 10) (ν 9 1) pN) j).1))), some (.int ((cnt9 (okK x (σ 6) (σ 8) (ν 1 9) (σ 10) (ν 9 1) pN) j).2)), some (.int ((nI u) + Int32.ofInt (-1)))]) ((nI u) + Int32.ofInt (-1)) rfl (rfl) 61 rfl d_HB_can_58 (by decide) rfl rfl ?_
                refine r_goto 29 rfl d_HB_can_61 ?_
                refine Runs.cast (ih2 (j + 1) (nI u + Int32.ofInt (-1)) fs6 (by omega) (by rw [show 10 - (j + 1) = u by omega]; exact i_m1 _) (by omega)) (by rw [eC]; try rfl) rfl (rfl)
              · have eC : cnt9 (okK x (σ 6) (σ 8) (ν 1 9) (σ 10) (ν 9 1) pN) (j + 1) = ((cnt9 (okK x (σ 6) (σ 8) (ν 1 9) (σ 10) (ν 9 1) pN) j).1 + 1, nI u) := by rw [cnt9, show 9 - j = u by omega]; exact if_pos h48
                refine r_iinc (ls2 := [some (.ref (a 0)), some (.int (nI pN)), some (.int (nI wN)), some (.int (nI (((cnt9 (okK x (σ 6) (σ 8) (ν 1 9) (σ 10) (ν 9 1) pN) j).1) + 1))), some (.int ((cnt9 (okK x (σ 6) (σ 8) (ν 1 9) (σ 10) (ν 9 1) pN) j).2)), some (.int (nI u))]) (nI (((cnt9 (okK x (σ 6) (σ 8) (ν 1 9) (σ 10) (ν 9 1) pN) j).1) + 1)) rfl (nI_1 _) 54 rfl d_HB_can_51 (by decide) rfl rfl ?_
                refine r_iload rfl 56 rfl d_HB_can_54 ?_
                refine r_istore (ls2 := [some (.ref (a 0)), some (.int (nI pN)), some (.int (nI wN)), some (.int (nI (((cnt9 (okK x (σ 6) (σ 8) (ν 1 9) (σ 10) (ν 9 1) pN) j).1) + 1))), some (.int (nI u)), some (.int (nI u))]) 58 rfl d_HB_can_56 (by decide) rfl rfl ?_
                refine r_iinc (ls2 := [some (.ref (a 0)), some (.int (nI pN)), some (.int (nI wN)), some (.int (nI (((cnt9 (okK x (σ 6) (σ 8) (ν 1 9) (σ 10) (ν 9 1) pN) j).1) + 1))), some (.int (nI u)), some (.int ((nI u) + Int32.ofInt (-1)))]) ((nI u) + Int32.ofInt (-1)) rfl (rfl) 61 rfl d_HB_can_58 (by decide) rfl rfl ?_
                refine r_goto 29 rfl d_HB_can_61 ?_
                refine Runs.cast (ih2 (j + 1) (nI u + Int32.ofInt (-1)) fs6 (by omega) (by rw [show 10 - (j + 1) = u by omega]; exact i_m1 _) (by omega)) (by rw [eC]; try rfl) rfl (rfl)
        refine Runs.cast (L29_1 _ 0 (nI 9) (σ 16) (Nat.zero_le _) (by decide) (Nat.lt_succ_self _)) (rfl) rfl (by rw [u2_self])
      · have r_w : inR w (nI 0) (nI 1) = false := inR_gt (Int32.not_le.mp h14)
        refine r_iconst ((-1)) rfl 18 rfl d_HB_can_17 ?_
        exact r_iret rfl (Nat.zero_le _) (Nat.zero_le _) d_HB_can_18 (by rw [← hQ]; exact ⟨by simp [R_can, r_w], σ 16, by rw [u2_self]⟩)
