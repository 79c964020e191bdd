def M_Mod_looked : XM := (⟨"HandshakeBindsModel", "looked", "()I"⟩, prog_11_method_61_code, 2, (some .int))
theorem d_Mod_looked_0 : decode M_Mod_looked.2.1 0 = .ok (.iconst 0, 1) := by decide +kernel
theorem d_Mod_looked_1 : decode M_Mod_looked.2.1 1 = .ok (.istore_n 1, 1) := by decide +kernel
theorem d_Mod_looked_2 : decode M_Mod_looked.2.1 2 = .ok (.iload_n 1, 1) := by decide +kernel
theorem d_Mod_looked_3 : decode M_Mod_looked.2.1 3 = .ok (.aload_n 0, 1) := by decide +kernel
theorem d_Mod_looked_4 : decode M_Mod_looked.2.1 4 = .ok (.getfield 319, 3) := by decide +kernel
theorem d_Mod_looked_7 : decode M_Mod_looked.2.1 7 = .ok (.if_icmp .ge 41, 3) := by decide +kernel
theorem d_Mod_looked_48 : decode M_Mod_looked.2.1 48 = .ok (.bipush (-5), 2) := by decide +kernel
theorem d_Mod_looked_50 : decode M_Mod_looked.2.1 50 = .ok (.ireturn, 1) := by decide +kernel
theorem d_Mod_looked_10 : decode M_Mod_looked.2.1 10 = .ok (.aload_n 0, 1) := by decide +kernel
theorem d_Mod_looked_11 : decode M_Mod_looked.2.1 11 = .ok (.getfield 24, 3) := by decide +kernel
theorem d_Mod_looked_14 : decode M_Mod_looked.2.1 14 = .ok (.bipush 6, 2) := by decide +kernel
theorem d_Mod_looked_16 : decode M_Mod_looked.2.1 16 = .ok (.aload_n 0, 1) := by decide +kernel
theorem d_Mod_looked_17 : decode M_Mod_looked.2.1 17 = .ok (.getfield 73, 3) := by decide +kernel
theorem d_Mod_looked_20 : decode M_Mod_looked.2.1 20 = .ok (.iload_n 1, 1) := by decide +kernel
theorem d_Mod_looked_21 : decode M_Mod_looked.2.1 21 = .ok (.iaload, 1) := by decide +kernel
theorem d_Mod_looked_22 : decode M_Mod_looked.2.1 22 = .ok (.imul, 1) := by decide +kernel
theorem d_Mod_looked_23 : decode M_Mod_looked.2.1 23 = .ok (.aload_n 0, 1) := by decide +kernel
theorem d_Mod_looked_24 : decode M_Mod_looked.2.1 24 = .ok (.getfield 76, 3) := by decide +kernel
theorem d_Mod_looked_27 : decode M_Mod_looked.2.1 27 = .ok (.iload_n 1, 1) := by decide +kernel
theorem d_Mod_looked_28 : decode M_Mod_looked.2.1 28 = .ok (.iaload, 1) := by decide +kernel
theorem d_Mod_looked_29 : decode M_Mod_looked.2.1 29 = .ok (.iadd, 1) := by decide +kernel
theorem d_Mod_looked_30 : decode M_Mod_looked.2.1 30 = .ok (.iaload, 1) := by decide +kernel
theorem d_Mod_looked_31 : decode M_Mod_looked.2.1 31 = .ok (.aload_n 0, 1) := by decide +kernel
theorem d_Mod_looked_32 : decode M_Mod_looked.2.1 32 = .ok (.getfield 79, 3) := by decide +kernel
theorem d_Mod_looked_35 : decode M_Mod_looked.2.1 35 = .ok (.iload_n 1, 1) := by decide +kernel
theorem d_Mod_looked_36 : decode M_Mod_looked.2.1 36 = .ok (.iaload, 1) := by decide +kernel
theorem d_Mod_looked_37 : decode M_Mod_looked.2.1 37 = .ok (.if_icmp .eq 5, 3) := by decide +kernel
theorem d_Mod_looked_42 : decode M_Mod_looked.2.1 42 = .ok (.iinc 1 1, 3) := by decide +kernel
theorem d_Mod_looked_45 : decode M_Mod_looked.2.1 45 = .ok (.goto (-43), 3) := by decide +kernel
theorem d_Mod_looked_40 : decode M_Mod_looked.2.1 40 = .ok (.iload_n 1, 1) := by decide +kernel
theorem d_Mod_looked_41 : decode M_Mod_looked.2.1 41 = .ok (.ireturn, 1) := by decide +kernel
def M_Mod_part : XM := (⟨"HandshakeBindsModel", "part", "(III)J"⟩, prog_11_method_54_code, 6, (some .long))
theorem d_Mod_part_0 : decode M_Mod_part.2.1 0 = .ok (.iload_n 0, 1) := by decide +kernel
theorem d_Mod_part_1 : decode M_Mod_part.2.1 1 = .ok (.istore_n 3, 1) := by decide +kernel
theorem d_Mod_part_2 : decode M_Mod_part.2.1 2 = .ok (.iload_n 1, 1) := by decide +kernel
theorem d_Mod_part_3 : decode M_Mod_part.2.1 3 = .ok (.istore 4, 2) := by decide +kernel
theorem d_Mod_part_5 : decode M_Mod_part.2.1 5 = .ok (.iload 4, 2) := by decide +kernel
theorem d_Mod_part_7 : decode M_Mod_part.2.1 7 = .ok (.ifCond .eq 19, 3) := by decide +kernel
theorem d_Mod_part_26 : decode M_Mod_part.2.1 26 = .ok (.iload_n 2, 1) := by decide +kernel
theorem d_Mod_part_27 : decode M_Mod_part.2.1 27 = .ok (.ifCond .ne 10, 3) := by decide +kernel
theorem d_Mod_part_37 : decode M_Mod_part.2.1 37 = .ok (.iload_n 1, 1) := by decide +kernel
theorem d_Mod_part_38 : decode M_Mod_part.2.1 38 = .ok (.iload_n 3, 1) := by decide +kernel
theorem d_Mod_part_39 : decode M_Mod_part.2.1 39 = .ok (.idiv, 1) := by decide +kernel
theorem d_Mod_part_40 : decode M_Mod_part.2.1 40 = .ok (.i2l, 1) := by decide +kernel
theorem d_Mod_part_41 : decode M_Mod_part.2.1 41 = .ok (.lreturn, 1) := by decide +kernel
theorem d_Mod_part_30 : decode M_Mod_part.2.1 30 = .ok (.iload_n 0, 1) := by decide +kernel
theorem d_Mod_part_31 : decode M_Mod_part.2.1 31 = .ok (.iload_n 3, 1) := by decide +kernel
theorem d_Mod_part_32 : decode M_Mod_part.2.1 32 = .ok (.idiv, 1) := by decide +kernel
theorem d_Mod_part_33 : decode M_Mod_part.2.1 33 = .ok (.i2l, 1) := by decide +kernel
theorem d_Mod_part_34 : decode M_Mod_part.2.1 34 = .ok (.goto 7, 3) := by decide +kernel
theorem d_Mod_part_10 : decode M_Mod_part.2.1 10 = .ok (.iload_n 3, 1) := by decide +kernel
theorem d_Mod_part_11 : decode M_Mod_part.2.1 11 = .ok (.iload 4, 2) := by decide +kernel
theorem d_Mod_part_13 : decode M_Mod_part.2.1 13 = .ok (.irem, 1) := by decide +kernel
theorem d_Mod_part_14 : decode M_Mod_part.2.1 14 = .ok (.istore 5, 2) := by decide +kernel
theorem d_Mod_part_16 : decode M_Mod_part.2.1 16 = .ok (.iload 4, 2) := by decide +kernel
theorem d_Mod_part_18 : decode M_Mod_part.2.1 18 = .ok (.istore_n 3, 1) := by decide +kernel
theorem d_Mod_part_19 : decode M_Mod_part.2.1 19 = .ok (.iload 5, 2) := by decide +kernel
theorem d_Mod_part_21 : decode M_Mod_part.2.1 21 = .ok (.istore 4, 2) := by decide +kernel
theorem d_Mod_part_23 : decode M_Mod_part.2.1 23 = .ok (.goto (-18), 3) := by decide +kernel
def M_Mod_odds : XM := (⟨"HandshakeBindsModel", "odds", "(I)J"⟩, prog_11_method_55_code, 4, (some .long))
theorem d_Mod_odds_0 : decode M_Mod_odds.2.1 0 = .ok (.iload_n 1, 1) := by decide +kernel
theorem d_Mod_odds_1 : decode M_Mod_odds.2.1 1 = .ok (.iconst 0, 1) := by decide +kernel
theorem d_Mod_odds_2 : decode M_Mod_odds.2.1 2 = .ok (.iconst 1, 1) := by decide +kernel
theorem d_Mod_odds_3 : decode M_Mod_odds.2.1 3 = .ok (.invokestatic 114, 3) := by decide +kernel
theorem d_Mod_odds_6 : decode M_Mod_odds.2.1 6 = .ok (.ifCond .eq 10, 3) := by decide +kernel
theorem d_Mod_odds_16 : decode M_Mod_odds.2.1 16 = .ok (.ldc2_w 306, 3) := by decide +kernel
theorem d_Mod_odds_19 : decode M_Mod_odds.2.1 19 = .ok (.lreturn, 1) := by decide +kernel
theorem d_Mod_odds_9 : decode M_Mod_odds.2.1 9 = .ok (.aload_n 0, 1) := by decide +kernel
theorem d_Mod_odds_10 : decode M_Mod_odds.2.1 10 = .ok (.getfield 111, 3) := by decide +kernel
theorem d_Mod_odds_13 : decode M_Mod_odds.2.1 13 = .ok (.ifCond .ne 7, 3) := by decide +kernel
theorem d_Mod_odds_20 : decode M_Mod_odds.2.1 20 = .ok (.iconst 0, 1) := by decide +kernel
theorem d_Mod_odds_21 : decode M_Mod_odds.2.1 21 = .ok (.istore_n 2, 1) := by decide +kernel
theorem d_Mod_odds_22 : decode M_Mod_odds.2.1 22 = .ok (.iconst 0, 1) := by decide +kernel
theorem d_Mod_odds_23 : decode M_Mod_odds.2.1 23 = .ok (.istore_n 3, 1) := by decide +kernel
theorem d_Mod_odds_24 : decode M_Mod_odds.2.1 24 = .ok (.iload_n 3, 1) := by decide +kernel
theorem d_Mod_odds_25 : decode M_Mod_odds.2.1 25 = .ok (.aload_n 0, 1) := by decide +kernel
theorem d_Mod_odds_26 : decode M_Mod_odds.2.1 26 = .ok (.getfield 111, 3) := by decide +kernel
theorem d_Mod_odds_29 : decode M_Mod_odds.2.1 29 = .ok (.if_icmp .ge 25, 3) := by decide +kernel
theorem d_Mod_odds_54 : decode M_Mod_odds.2.1 54 = .ok (.iload_n 2, 1) := by decide +kernel
theorem d_Mod_odds_55 : decode M_Mod_odds.2.1 55 = .ok (.aload_n 0, 1) := by decide +kernel
theorem d_Mod_odds_56 : decode M_Mod_odds.2.1 56 = .ok (.getfield 111, 3) := by decide +kernel
theorem d_Mod_odds_59 : decode M_Mod_odds.2.1 59 = .ok (.iload_n 1, 1) := by decide +kernel
theorem d_Mod_odds_60 : decode M_Mod_odds.2.1 60 = .ok (.invokestatic 308, 3) := by decide +kernel
theorem ln_Mod_308 : Cond.methodLink "HandshakeBindsModel" 308 M_Mod_part.1 ∈ TB := inTB 1282 (by decide +kernel) rfl
theorem lk_Mod_part : LSt M_Mod_part 3 := ⟨⟨inTB 72 (by decide +kernel) rfl, inTB 1284 (by decide +kernel) rfl, ⟨by decide, by decide, by decide +kernel⟩, by decide⟩, inTB 1283 (by decide +kernel) rfl⟩
theorem d_Mod_odds_63 : decode M_Mod_odds.2.1 63 = .ok (.lreturn, 1) := by decide +kernel
theorem d_Mod_odds_32 : decode M_Mod_odds.2.1 32 = .ok (.aload_n 0, 1) := by decide +kernel
theorem d_Mod_odds_33 : decode M_Mod_odds.2.1 33 = .ok (.iconst 1, 1) := by decide +kernel
theorem d_Mod_odds_34 : decode M_Mod_odds.2.1 34 = .ok (.iload_n 3, 1) := by decide +kernel
theorem d_Mod_odds_35 : decode M_Mod_odds.2.1 35 = .ok (.ishl, 1) := by decide +kernel
theorem d_Mod_odds_36 : decode M_Mod_odds.2.1 36 = .ok (.invokevirtual 134, 3) := by decide +kernel
theorem d_Mod_odds_39 : decode M_Mod_odds.2.1 39 = .ok (.iconst 1, 1) := by decide +kernel
theorem d_Mod_odds_40 : decode M_Mod_odds.2.1 40 = .ok (.iload_n 3, 1) := by decide +kernel
theorem d_Mod_odds_41 : decode M_Mod_odds.2.1 41 = .ok (.ishl, 1) := by decide +kernel
theorem d_Mod_odds_42 : decode M_Mod_odds.2.1 42 = .ok (.if_icmp .ne 6, 3) := by decide +kernel
theorem d_Mod_odds_48 : decode M_Mod_odds.2.1 48 = .ok (.iinc 3 1, 3) := by decide +kernel
theorem d_Mod_odds_51 : decode M_Mod_odds.2.1 51 = .ok (.goto (-27), 3) := by decide +kernel
theorem d_Mod_odds_45 : decode M_Mod_odds.2.1 45 = .ok (.iinc 2 1, 3) := by decide +kernel
def M_Mod_mean : XM := (⟨"HandshakeBindsModel", "mean", "(I)J"⟩, prog_11_method_56_code, 4, (some .long))
theorem d_Mod_mean_0 : decode M_Mod_mean.2.1 0 = .ok (.iload_n 1, 1) := by decide +kernel
theorem d_Mod_mean_1 : decode M_Mod_mean.2.1 1 = .ok (.iconst 0, 1) := by decide +kernel
theorem d_Mod_mean_2 : decode M_Mod_mean.2.1 2 = .ok (.iconst 1, 1) := by decide +kernel
theorem d_Mod_mean_3 : decode M_Mod_mean.2.1 3 = .ok (.invokestatic 114, 3) := by decide +kernel
theorem d_Mod_mean_6 : decode M_Mod_mean.2.1 6 = .ok (.ifCond .eq 10, 3) := by decide +kernel
theorem d_Mod_mean_16 : decode M_Mod_mean.2.1 16 = .ok (.ldc2_w 306, 3) := by decide +kernel
theorem d_Mod_mean_19 : decode M_Mod_mean.2.1 19 = .ok (.lreturn, 1) := by decide +kernel
theorem d_Mod_mean_9 : decode M_Mod_mean.2.1 9 = .ok (.aload_n 0, 1) := by decide +kernel
theorem d_Mod_mean_10 : decode M_Mod_mean.2.1 10 = .ok (.getfield 111, 3) := by decide +kernel
theorem d_Mod_mean_13 : decode M_Mod_mean.2.1 13 = .ok (.ifCond .ne 7, 3) := by decide +kernel
theorem d_Mod_mean_20 : decode M_Mod_mean.2.1 20 = .ok (.iconst 0, 1) := by decide +kernel
theorem d_Mod_mean_21 : decode M_Mod_mean.2.1 21 = .ok (.istore_n 2, 1) := by decide +kernel
theorem d_Mod_mean_22 : decode M_Mod_mean.2.1 22 = .ok (.iconst 0, 1) := by decide +kernel
theorem d_Mod_mean_23 : decode M_Mod_mean.2.1 23 = .ok (.istore_n 3, 1) := by decide +kernel
theorem d_Mod_mean_24 : decode M_Mod_mean.2.1 24 = .ok (.iload_n 3, 1) := by decide +kernel
theorem d_Mod_mean_25 : decode M_Mod_mean.2.1 25 = .ok (.aload_n 0, 1) := by decide +kernel
theorem d_Mod_mean_26 : decode M_Mod_mean.2.1 26 = .ok (.getfield 111, 3) := by decide +kernel
theorem d_Mod_mean_29 : decode M_Mod_mean.2.1 29 = .ok (.if_icmp .ge 18, 3) := by decide +kernel
theorem d_Mod_mean_47 : decode M_Mod_mean.2.1 47 = .ok (.iload_n 2, 1) := by decide +kernel
theorem d_Mod_mean_48 : decode M_Mod_mean.2.1 48 = .ok (.aload_n 0, 1) := by decide +kernel
theorem d_Mod_mean_49 : decode M_Mod_mean.2.1 49 = .ok (.getfield 111, 3) := by decide +kernel
theorem d_Mod_mean_52 : decode M_Mod_mean.2.1 52 = .ok (.iload_n 1, 1) := by decide +kernel
theorem d_Mod_mean_53 : decode M_Mod_mean.2.1 53 = .ok (.invokestatic 308, 3) := by decide +kernel
theorem d_Mod_mean_56 : decode M_Mod_mean.2.1 56 = .ok (.lreturn, 1) := by decide +kernel
theorem d_Mod_mean_32 : decode M_Mod_mean.2.1 32 = .ok (.iload_n 2, 1) := by decide +kernel
theorem d_Mod_mean_33 : decode M_Mod_mean.2.1 33 = .ok (.aload_n 0, 1) := by decide +kernel
theorem d_Mod_mean_34 : decode M_Mod_mean.2.1 34 = .ok (.getfield 18, 3) := by decide +kernel
theorem d_Mod_mean_37 : decode M_Mod_mean.2.1 37 = .ok (.iload_n 3, 1) := by decide +kernel
theorem d_Mod_mean_38 : decode M_Mod_mean.2.1 38 = .ok (.iaload, 1) := by decide +kernel
theorem d_Mod_mean_39 : decode M_Mod_mean.2.1 39 = .ok (.iadd, 1) := by decide +kernel
theorem d_Mod_mean_40 : decode M_Mod_mean.2.1 40 = .ok (.istore_n 2, 1) := by decide +kernel
theorem d_Mod_mean_41 : decode M_Mod_mean.2.1 41 = .ok (.iinc 3 1, 3) := by decide +kernel
theorem d_Mod_mean_44 : decode M_Mod_mean.2.1 44 = .ok (.goto (-20), 3) := by decide +kernel
def M_Mod_paysAll : XM := (⟨"HandshakeBindsModel", "paysAll", "(I)V"⟩, prog_11_method_58_code, 4, none)
theorem d_Mod_paysAll_0 : decode M_Mod_paysAll.2.1 0 = .ok (.iconst 0, 1) := by decide +kernel
theorem d_Mod_paysAll_1 : decode M_Mod_paysAll.2.1 1 = .ok (.istore_n 2, 1) := by decide +kernel
theorem d_Mod_paysAll_2 : decode M_Mod_paysAll.2.1 2 = .ok (.iload_n 2, 1) := by decide +kernel
theorem d_Mod_paysAll_3 : decode M_Mod_paysAll.2.1 3 = .ok (.aload_n 0, 1) := by decide +kernel
theorem d_Mod_paysAll_4 : decode M_Mod_paysAll.2.1 4 = .ok (.getfield 111, 3) := by decide +kernel
theorem d_Mod_paysAll_7 : decode M_Mod_paysAll.2.1 7 = .ok (.if_icmp .ge 75, 3) := by decide +kernel
theorem d_Mod_paysAll_82 : decode M_Mod_paysAll.2.1 82 = .ok (.return_, 1) := by decide +kernel
theorem d_Mod_paysAll_10 : decode M_Mod_paysAll.2.1 10 = .ok (.aload_n 0, 1) := by decide +kernel
theorem d_Mod_paysAll_11 : decode M_Mod_paysAll.2.1 11 = .ok (.getfield 18, 3) := by decide +kernel
theorem d_Mod_paysAll_14 : decode M_Mod_paysAll.2.1 14 = .ok (.iload_n 1, 1) := by decide +kernel
theorem d_Mod_paysAll_15 : decode M_Mod_paysAll.2.1 15 = .ok (.iaload, 1) := by decide +kernel
theorem d_Mod_paysAll_16 : decode M_Mod_paysAll.2.1 16 = .ok (.aload_n 0, 1) := by decide +kernel
theorem d_Mod_paysAll_17 : decode M_Mod_paysAll.2.1 17 = .ok (.getfield 24, 3) := by decide +kernel
theorem d_Mod_paysAll_20 : decode M_Mod_paysAll.2.1 20 = .ok (.bipush 6, 2) := by decide +kernel
theorem d_Mod_paysAll_22 : decode M_Mod_paysAll.2.1 22 = .ok (.iload_n 1, 1) := by decide +kernel
theorem d_Mod_paysAll_23 : decode M_Mod_paysAll.2.1 23 = .ok (.imul, 1) := by decide +kernel
theorem d_Mod_paysAll_24 : decode M_Mod_paysAll.2.1 24 = .ok (.iload_n 2, 1) := by decide +kernel
theorem d_Mod_paysAll_25 : decode M_Mod_paysAll.2.1 25 = .ok (.iadd, 1) := by decide +kernel
theorem d_Mod_paysAll_26 : decode M_Mod_paysAll.2.1 26 = .ok (.iaload, 1) := by decide +kernel
theorem d_Mod_paysAll_27 : decode M_Mod_paysAll.2.1 27 = .ok (.invokestatic 246, 3) := by decide +kernel
theorem d_Mod_paysAll_30 : decode M_Mod_paysAll.2.1 30 = .ok (.istore_n 3, 1) := by decide +kernel
theorem d_Mod_paysAll_31 : decode M_Mod_paysAll.2.1 31 = .ok (.aload_n 0, 1) := by decide +kernel
theorem d_Mod_paysAll_32 : decode M_Mod_paysAll.2.1 32 = .ok (.getfield 18, 3) := by decide +kernel
theorem d_Mod_paysAll_35 : decode M_Mod_paysAll.2.1 35 = .ok (.iload_n 1, 1) := by decide +kernel
theorem d_Mod_paysAll_36 : decode M_Mod_paysAll.2.1 36 = .ok (.dup2, 1) := by decide +kernel
theorem d_Mod_paysAll_37 : decode M_Mod_paysAll.2.1 37 = .ok (.iaload, 1) := by decide +kernel
theorem d_Mod_paysAll_38 : decode M_Mod_paysAll.2.1 38 = .ok (.iload_n 3, 1) := by decide +kernel
theorem d_Mod_paysAll_39 : decode M_Mod_paysAll.2.1 39 = .ok (.isub, 1) := by decide +kernel
theorem d_Mod_paysAll_40 : decode M_Mod_paysAll.2.1 40 = .ok (.iastore, 1) := by decide +kernel
theorem d_Mod_paysAll_41 : decode M_Mod_paysAll.2.1 41 = .ok (.aload_n 0, 1) := by decide +kernel
theorem d_Mod_paysAll_42 : decode M_Mod_paysAll.2.1 42 = .ok (.getfield 24, 3) := by decide +kernel
theorem d_Mod_paysAll_45 : decode M_Mod_paysAll.2.1 45 = .ok (.bipush 6, 2) := by decide +kernel
theorem d_Mod_paysAll_47 : decode M_Mod_paysAll.2.1 47 = .ok (.iload_n 1, 1) := by decide +kernel
theorem d_Mod_paysAll_48 : decode M_Mod_paysAll.2.1 48 = .ok (.imul, 1) := by decide +kernel
theorem d_Mod_paysAll_49 : decode M_Mod_paysAll.2.1 49 = .ok (.iload_n 2, 1) := by decide +kernel
theorem d_Mod_paysAll_50 : decode M_Mod_paysAll.2.1 50 = .ok (.iadd, 1) := by decide +kernel
theorem d_Mod_paysAll_51 : decode M_Mod_paysAll.2.1 51 = .ok (.dup2, 1) := by decide +kernel
theorem d_Mod_paysAll_52 : decode M_Mod_paysAll.2.1 52 = .ok (.iaload, 1) := by decide +kernel
theorem d_Mod_paysAll_53 : decode M_Mod_paysAll.2.1 53 = .ok (.iload_n 3, 1) := by decide +kernel
theorem d_Mod_paysAll_54 : decode M_Mod_paysAll.2.1 54 = .ok (.isub, 1) := by decide +kernel
theorem d_Mod_paysAll_55 : decode M_Mod_paysAll.2.1 55 = .ok (.iastore, 1) := by decide +kernel
theorem d_Mod_paysAll_56 : decode M_Mod_paysAll.2.1 56 = .ok (.aload_n 0, 1) := by decide +kernel
theorem d_Mod_paysAll_57 : decode M_Mod_paysAll.2.1 57 = .ok (.getfield 18, 3) := by decide +kernel
theorem d_Mod_paysAll_60 : decode M_Mod_paysAll.2.1 60 = .ok (.iload_n 2, 1) := by decide +kernel
theorem d_Mod_paysAll_61 : decode M_Mod_paysAll.2.1 61 = .ok (.sipush 9999, 3) := by decide +kernel
theorem d_Mod_paysAll_64 : decode M_Mod_paysAll.2.1 64 = .ok (.aload_n 0, 1) := by decide +kernel
theorem d_Mod_paysAll_65 : decode M_Mod_paysAll.2.1 65 = .ok (.getfield 18, 3) := by decide +kernel
theorem d_Mod_paysAll_68 : decode M_Mod_paysAll.2.1 68 = .ok (.iload_n 2, 1) := by decide +kernel
theorem d_Mod_paysAll_69 : decode M_Mod_paysAll.2.1 69 = .ok (.iaload, 1) := by decide +kernel
theorem d_Mod_paysAll_70 : decode M_Mod_paysAll.2.1 70 = .ok (.iload_n 3, 1) := by decide +kernel
theorem d_Mod_paysAll_71 : decode M_Mod_paysAll.2.1 71 = .ok (.iadd, 1) := by decide +kernel
theorem d_Mod_paysAll_72 : decode M_Mod_paysAll.2.1 72 = .ok (.invokestatic 246, 3) := by decide +kernel
theorem d_Mod_paysAll_75 : decode M_Mod_paysAll.2.1 75 = .ok (.iastore, 1) := by decide +kernel
theorem d_Mod_paysAll_76 : decode M_Mod_paysAll.2.1 76 = .ok (.iinc 2 1, 3) := by decide +kernel
theorem d_Mod_paysAll_79 : decode M_Mod_paysAll.2.1 79 = .ok (.goto (-77), 3) := by decide +kernel
theorem c_Mod_looked (X : Xn) (a ν : Nat → Nat) (σ : Nat → Nat → Int32) (τ : Nat → Int64) (hb8 : ν 32 ≤ 8) (hbk : ∀ i, i < ν 32 → ∃ P R : Nat, P < 6 ∧ R < 6 ∧ σ 33 i = nI P ∧ σ 34 i = nI R) : Does X 1 M_Mod_looked [.ref (a 0)] (MW X a ν σ τ) 0 0 (fun (vv : Option Value) (ww : va_W) => vv = some (.int (lookF (σ 5) (σ 33) (σ 34) (σ 35) (ν 32) (ν 32))) ∧ ww = MW X a ν σ τ) := by
  generalize hQ : (fun (vv : Option Value) (ww : va_W) => vv = some (.int (lookF (σ 5) (σ 33) (σ 34) (σ 35) (ν 32) (ν 32))) ∧ ww = MW X a ν σ τ) = Q
  refine Does.go rfl (Nat.le_of_ble_eq_true rfl) [some (.ref (a 0)), none] 1 rfl ?_
  refine r_iconst (nI 0) rfl 1 rfl d_Mod_looked_0 ?_
  refine r_istore_n (ls2 := [some (.ref (a 0)), some (.int (nI 0))]) 2 rfl d_Mod_looked_1 (by decide) rfl rfl ?_
  have L2_1 : ∀ (f : Nat) (i : Nat), (i ≤ ν 32) → (lookF (σ 5) (σ 33) (σ 34) (σ 35) (ν 32) (ν 32) = lookF (σ 5) (σ 33) (σ 34) (σ 35) (ν 32) (ν 32 - i)) → ν 32 - i < f → Runs X 1 M_Mod_looked 0 0 Q 2 [some (.ref (a 0)), some (.int (nI i))] [] 0 0 (MW X a ν σ τ) := by
    intro f
    induction f with
    | zero => intro i hi hr hmu; exact absurd hmu (Nat.not_lt_zero _)
    | succ f ih2 =>
      intro i hi hr hmu
      refine r_iload_n rfl 3 rfl d_Mod_looked_2 ?_
      refine r_aload_n rfl 4 rfl d_Mod_looked_3 ?_
      refine r_getf (v := .int (nI (ν 32))) gf_Mod_319 0 rfl rfl 7 rfl d_Mod_looked_4 ?_
      refine r_icmp_geN i (ν 32) (by omega) (by omega) 10 48 rfl rfl d_Mod_looked_7 (fun h7 => ?_) (fun h7 => ?_)
      · refine r_bipush ((-5)) rfl 50 rfl d_Mod_looked_48 ?_
        exact r_iret rfl (Nat.zero_le _) (Nat.zero_le _) d_Mod_looked_50 (by rw [← hQ]; exact ⟨by rw [hr, show ν 32 - i = 0 by omega]; rfl, rfl⟩)
      · refine r_aload_n rfl 11 rfl d_Mod_looked_10 ?_
        refine r_getf (v := .ref (a 5)) gf_Mod_24 0 rfl rfl 14 rfl d_Mod_looked_11 ?_
        refine r_bipush (nI 6) rfl 16 rfl d_Mod_looked_14 ?_
        refine r_aload_n rfl 17 rfl d_Mod_looked_16 ?_
        refine r_getf (v := .ref (a 33)) gf_Mod_73 0 rfl rfl 20 rfl d_Mod_looked_17 ?_
        refine r_iload_n rfl 21 rfl d_Mod_looked_20 ?_
        refine r_iald 21 rfl i rfl (by omega) (by omega) 22 rfl d_Mod_looked_21 ?_
        obtain ⟨P, R, hP, hR, eP, eR⟩ := hbk i h7
        refine r_topi (nI P) (eP) ?_
        refine r_imul 23 rfl d_Mod_looked_22 ?_
        refine r_topi (nI (6 * P)) (pk_mul _ _) ?_
        refine r_aload_n rfl 24 rfl d_Mod_looked_23 ?_
        refine r_getf (v := .ref (a 34)) gf_Mod_76 0 rfl rfl 27 rfl d_Mod_looked_24 ?_
        refine r_iload_n rfl 28 rfl d_Mod_looked_27 ?_
        refine r_iald 22 rfl i rfl (by omega) (by omega) 29 rfl d_Mod_looked_28 ?_
        refine r_topi (nI R) (eR) ?_
        refine r_iadd 30 rfl d_Mod_looked_29 ?_
        refine r_topi (nI ((6 * P) + R)) (nI_add _ _) ?_
        refine r_iald 5 rfl ((6 * P) + R) rfl (by omega) (by omega) 31 rfl d_Mod_looked_30 ?_
        refine r_aload_n rfl 32 rfl d_Mod_looked_31 ?_
        refine r_getf (v := .ref (a 35)) gf_Mod_79 0 rfl rfl 35 rfl d_Mod_looked_32 ?_
        refine r_iload_n rfl 36 rfl d_Mod_looked_35 ?_
        refine r_iald 23 rfl i rfl (by omega) (by omega) 37 rfl d_Mod_looked_36 ?_
        refine r_icmp_eq 40 42 rfl rfl d_Mod_looked_37 (fun h37 => ?_) (fun h37 => ?_)
        · refine r_iinc (ls2 := [some (.ref (a 0)), some (.int (nI (i + 1)))]) (nI (i + 1)) rfl (nI_1 _) 45 rfl d_Mod_looked_42 (by decide) rfl rfl ?_
          refine r_goto 2 rfl d_Mod_looked_45 ?_
          exact ih2 (i + 1) (by omega) (by rw [hr, lookF_s h7, if_pos (by rw [eP, eR, cn_nI (by omega), cn_nI (by omega)]; exact h37)]) (by omega)
        · refine r_iload_n rfl 41 rfl d_Mod_looked_40 ?_
          exact r_iret rfl (Nat.zero_le _) (Nat.zero_le _) d_Mod_looked_41 (by rw [← hQ]; exact ⟨by rw [hr, lookF_s h7, if_neg (by rw [eP, eR, cn_nI (by omega), cn_nI (by omega)]; exact h37)], rfl⟩)
  exact L2_1 _ 0 (Nat.zero_le _) (rfl) (Nat.lt_succ_self _)
theorem c_Mod_part (X : Xn) (A0 B0 : Nat) (hA : A0 < 2 ^ 31) (hB : B0 < 2 ^ 31) (hB1 : 0 < B0) (q : Int32) : Does X 1 M_Mod_part [.int (nI A0), .int (nI B0), .int q] ([]) 0 0 (fun (vv : Option Value) (ww : va_W) => vv = some (.long (R_part A0 B0 q)) ∧ ww = []) := by
  generalize hQ : (fun (vv : Option Value) (ww : va_W) => vv = some (.long (R_part A0 B0 q)) ∧ ww = []) = Q
  refine Does.go rfl (Nat.le_of_ble_eq_true rfl) [some (.int (nI A0)), some (.int (nI B0)), some (.int q), none, none, none] 3 rfl ?_
  refine r_iload_n rfl 1 rfl d_Mod_part_0 ?_
  refine r_istore_n (ls2 := [some (.int (nI A0)), some (.int (nI B0)), some (.int q), some (.int (nI A0)), none, none]) 2 rfl d_Mod_part_1 (by decide) rfl rfl ?_
  refine r_iload_n rfl 3 rfl d_Mod_part_2 ?_
  refine r_istore (ls2 := [some (.int (nI A0)), some (.int (nI B0)), some (.int q), some (.int (nI A0)), some (.int (nI B0)), none]) 5 rfl d_Mod_part_3 (by decide) rfl rfl ?_
  have L5_1 : ∀ (f : Nat) (x : Nat) (y : Nat), (x < 2 ^ 31) → (y < 2 ^ 31) → (Nat.gcd y x = Nat.gcd B0 A0) → y < f → Runs X 1 M_Mod_part 0 0 Q 5 [some (.int (nI A0)), some (.int (nI B0)), some (.int q), some (.int (nI x)), some (.int (nI y)), none] [] 0 0 ([]) := by
    intro f
    induction f with
    | zero => intro x y hx hy hg hmu; exact absurd hmu (Nat.not_lt_zero _)
    | succ f ih2 =>
      intro x y hx hy hg hmu
      refine r_iload rfl 7 rfl d_Mod_part_5 ?_
      refine r_if_eqN y (by omega) 10 26 rfl rfl d_Mod_part_7 (fun h7 => ?_) (fun h7 => ?_)
      · have hxg : x = Nat.gcd B0 A0 := by rw [← hg, h7, Nat.gcd_zero_left]
        have hx0 : 0 < x := by rw [hxg]; exact Nat.gcd_pos_of_pos_left _ hB1
        refine r_iload_n rfl 27 rfl d_Mod_part_26 ?_
        refine r_if_ne 30 37 rfl rfl d_Mod_part_27 (fun h27 => ?_) (fun h27 => ?_)
        · refine r_iload_n rfl 38 rfl d_Mod_part_37 ?_
          refine r_iload_n rfl 39 rfl d_Mod_part_38 ?_
          refine r_idiv (nI_ne0 hx0 hx) 40 rfl d_Mod_part_39 ?_
          refine r_topi (nI (B0 / x)) (pk_div (by omega) (by omega) (by omega)) ?_
          refine r_i2l 41 rfl d_Mod_part_40 ?_
          refine r_topl (lN (B0 / x)) (nI_l (Nat.lt_of_le_of_lt (Nat.div_le_self _ _) (by omega))) ?_
          exact r_lret rfl (Nat.zero_le _) (Nat.zero_le _) d_Mod_part_41 (by rw [← hQ]; exact ⟨by rw [R_part, if_neg h27, hxg], rfl⟩)
        · refine r_iload_n rfl 31 rfl d_Mod_part_30 ?_
          refine r_iload_n rfl 32 rfl d_Mod_part_31 ?_
          refine r_idiv (nI_ne0 hx0 hx) 33 rfl d_Mod_part_32 ?_
          refine r_topi (nI (A0 / x)) (pk_div (by omega) (by omega) (by omega)) ?_
          refine r_i2l 34 rfl d_Mod_part_33 ?_
          refine r_topl (lN (A0 / x)) (nI_l (Nat.lt_of_le_of_lt (Nat.div_le_self _ _) (by omega))) ?_
          refine r_goto 41 rfl d_Mod_part_34 ?_
          exact r_lret rfl (Nat.zero_le _) (Nat.zero_le _) d_Mod_part_41 (by rw [← hQ]; exact ⟨by rw [R_part, if_pos h27, hxg], rfl⟩)
      · refine r_iload_n rfl 11 rfl d_Mod_part_10 ?_
        refine r_iload rfl 13 rfl d_Mod_part_11 ?_
        refine r_irem (nI_ne0 (by omega) (by omega)) 14 rfl d_Mod_part_13 ?_
        refine r_topi (nI (x % y)) (pk_rem (by omega) (by omega) (by omega)) ?_
        refine r_istore (ls2 := [some (.int (nI A0)), some (.int (nI B0)), some (.int q), some (.int (nI x)), some (.int (nI y)), some (.int (nI (x % y)))]) 16 rfl d_Mod_part_14 (by decide) rfl rfl ?_
        refine r_iload rfl 18 rfl d_Mod_part_16 ?_
        refine r_istore_n (ls2 := [some (.int (nI A0)), some (.int (nI B0)), some (.int q), some (.int (nI y)), some (.int (nI y)), some (.int (nI (x % y)))]) 19 rfl d_Mod_part_18 (by decide) rfl rfl ?_
        refine r_iload rfl 21 rfl d_Mod_part_19 ?_
        refine r_istore (ls2 := [some (.int (nI A0)), some (.int (nI B0)), some (.int q), some (.int (nI y)), some (.int (nI (x % y))), some (.int (nI (x % y)))]) 23 rfl d_Mod_part_21 (by decide) rfl rfl ?_
        refine r_goto 5 rfl d_Mod_part_23 ?_
        refine r_forget (ls2 := [some (.int (nI A0)), some (.int (nI B0)), some (.int q), some (.int (nI y)), some (.int (nI (x % y))), none]) 5 rfl ?_
        exact ih2 y (x % y) (hy) (by have := Nat.mod_lt x (show y > 0 by omega); omega) (by rw [← hg, ← Nat.gcd_rec]) (by have := Nat.mod_lt x (show y > 0 by omega); omega)
  exact L5_1 _ A0 B0 (hA) (hB) (rfl) (Nat.lt_succ_self _)
theorem c_Mod_odds (X : Xn) (a ν : Nat → Nat) (σ : Nat → Nat → Int32) (τ : Nat → Int64) (hn6 : ν 0 ≤ 6) (p : Int32) : Does X 4 M_Mod_odds [.ref (a 0), .int p] (MW X a ν σ τ) 0 0 (fun (vv : Option Value) (ww : va_W) => vv = some (.long (R_odds (ν 0) (σ 3) (σ 5) p)) ∧ ww = MW X a ν σ τ) := by
  generalize hQ : (fun (vv : Option Value) (ww : va_W) => vv = some (.long (R_odds (ν 0) (σ 3) (σ 5) p)) ∧ ww = MW X a ν σ τ) = Q
  refine Does.go rfl (Nat.le_of_ble_eq_true rfl) [some (.ref (a 0)), some (.int p), none, none] 2 rfl ?_
  refine r_iload_n rfl 1 rfl d_Mod_odds_0 ?_
  refine r_iconst (nI 0) rfl 2 rfl d_Mod_odds_1 ?_
  refine r_iconst (nI 1) rfl 3 rfl d_Mod_odds_2 ?_
  refine r_callS1 (st2 := [.int (bI (inR p (nI 0) (nI 1)))]) (w2 := MW X a ν σ τ) lk_Mod_within ln_Mod_114 (c_Mod_within X p (nI 0) (nI 1)) (by first | decide | omega) rfl rfl (Nat.le_of_ble_eq_true rfl) (Nat.le_of_ble_eq_true rfl) (Nat.le_of_ble_eq_true rfl) [] rfl rfl rfl rfl rfl 6 rfl d_Mod_odds_3 ?_
  refine r_if_eqB 9 16 rfl rfl d_Mod_odds_6 (fun h6 => ?_) (fun h6 => ?_)
  · refine r_ldc2 (v := (-9223372036854775808)) (inTB 1281 (by decide +kernel) rfl) 19 rfl d_Mod_odds_16 ?_
    exact r_lret rfl (Nat.zero_le _) (Nat.zero_le _) d_Mod_odds_19 (by rw [← hQ]; exact ⟨by rw [R_odds, if_neg (fun z => by rw [h6] at z; exact absurd z.1 (by decide))], rfl⟩)
  · refine r_aload_n rfl 10 rfl d_Mod_odds_9 ?_
    refine r_getf (v := .int (nI (ν 0))) gf_Mod_111 0 rfl rfl 13 rfl d_Mod_odds_10 ?_
    refine r_if_neN (ν 0) (by omega) 16 20 rfl rfl d_Mod_odds_13 (fun h13 => ?_) (fun h13 => ?_)
    · refine r_iconst (nI 0) rfl 21 rfl d_Mod_odds_20 ?_
      refine r_istore_n (ls2 := [some (.ref (a 0)), some (.int p), some (.int (nI 0)), none]) 22 rfl d_Mod_odds_21 (by decide) rfl rfl ?_
      refine r_iconst (nI 0) rfl 23 rfl d_Mod_odds_22 ?_
      refine r_istore_n (ls2 := [some (.ref (a 0)), some (.int p), some (.int (nI 0)), some (.int (nI 0))]) 24 rfl d_Mod_odds_23 (by decide) rfl rfl ?_
      have L24_1 : ∀ (f : Nat) (k : Nat), (k ≤ ν 0) → ν 0 - k < f → Runs X 4 M_Mod_odds 0 0 Q 24 [some (.ref (a 0)), some (.int p), some (.int (nI (alone (ν 0) (σ 3) (σ 5) k))), some (.int (nI k))] [] 0 0 (MW X a ν σ τ) := by
        intro f
        induction f with
        | zero => intro k hk hmu; exact absurd hmu (Nat.not_lt_zero _)
        | succ f ih2 =>
          intro k hk hmu
          refine r_iload_n rfl 25 rfl d_Mod_odds_24 ?_
          refine r_aload_n rfl 26 rfl d_Mod_odds_25 ?_
          refine r_getf (v := .int (nI (ν 0))) gf_Mod_111 0 rfl rfl 29 rfl d_Mod_odds_26 ?_
          refine r_icmp_geN k (ν 0) (by omega) (by omega) 32 54 rfl rfl d_Mod_odds_29 (fun h29 => ?_) (fun h29 => ?_)
          · have hal := alone_le (ν 0) (σ 3) (σ 5) k
            refine r_iload_n rfl 55 rfl d_Mod_odds_54 ?_
            refine r_aload_n rfl 56 rfl d_Mod_odds_55 ?_
            refine r_getf (v := .int (nI (ν 0))) gf_Mod_111 0 rfl rfl 59 rfl d_Mod_odds_56 ?_
            refine r_iload_n rfl 60 rfl d_Mod_odds_59 ?_
            refine r_callS1 (st2 := [.long (R_part (alone (ν 0) (σ 3) (σ 5) k) (ν 0) p)]) (w2 := MW X a ν σ τ) lk_Mod_part ln_Mod_308 (c_Mod_part X (alone (ν 0) (σ 3) (σ 5) k) (ν 0) (by omega) (by omega) (by omega) p) (by first | decide | omega) rfl rfl (Nat.le_of_ble_eq_true rfl) (Nat.le_of_ble_eq_true rfl) (Nat.le_of_ble_eq_true rfl) [] rfl rfl rfl rfl rfl 63 rfl d_Mod_odds_60 ?_
            exact r_lret rfl (Nat.zero_le _) (Nat.zero_le _) d_Mod_odds_63 (by rw [← hQ]; exact ⟨by rw [R_odds, if_pos ⟨h6, h13⟩, show k = ν 0 by omega], rfl⟩)
          · refine r_aload_n rfl 33 rfl d_Mod_odds_32 ?_
            refine r_iconst (nI 1) rfl 34 rfl d_Mod_odds_33 ?_
            refine r_iload_n rfl 35 rfl d_Mod_odds_34 ?_
            refine r_ishl 36 rfl d_Mod_odds_35 ?_
            refine r_topi (nI (1 <<< k)) (nI_shl (by omega) (one_shl (by omega))) ?_
            refine r_callVA1 (st2 := [.int (nI (fails (ν 0) (σ 3) (σ 5) (1 <<< k)))]) (w2 := MW X a ν σ τ) lk_Mod_fails ln_Mod_134 (c_Mod_fails X a ν σ τ hn6 (1 <<< k) (by first | omega | assumption | exact shl_lt6 (by omega))) (by first | decide | omega) rfl rfl (Nat.le_of_ble_eq_true rfl) (Nat.le_of_ble_eq_true rfl) (Nat.le_of_ble_eq_true rfl) 0 rfl rfl rfl rfl 39 rfl d_Mod_odds_36 ?_
            have hfl : fails (ν 0) (σ 3) (σ 5) (1 <<< k) < 64 := fails_lt hn6 (shl_lt6 (by omega))
            refine r_iconst (nI 1) rfl 40 rfl d_Mod_odds_39 ?_
            refine r_iload_n rfl 41 rfl d_Mod_odds_40 ?_
            refine r_ishl 42 rfl d_Mod_odds_41 ?_
            refine r_topi (nI (1 <<< k)) (nI_shl (by omega) (one_shl (by omega))) ?_
            refine r_icmp_neN (fails (ν 0) (σ 3) (σ 5) (1 <<< k)) (1 <<< k) (Nat.lt_trans hfl (by decide)) (shl_lt31 (by omega)) 45 48 rfl rfl d_Mod_odds_42 (fun h42 => ?_) (fun h42 => ?_)
            · refine r_iinc (ls2 := [some (.ref (a 0)), some (.int p), some (.int (nI (alone (ν 0) (σ 3) (σ 5) k))), some (.int (nI (k + 1)))]) (nI (k + 1)) rfl (nI_1 _) 51 rfl d_Mod_odds_48 (by decide) rfl rfl ?_
              refine r_goto 24 rfl d_Mod_odds_51 ?_
              refine Runs.cast (ih2 (k + 1) (by omega) (by omega)) (by rw [alone, if_neg h42]; try rfl) rfl (rfl)
            · refine r_iinc (ls2 := [some (.ref (a 0)), some (.int p), some (.int (nI ((alone (ν 0) (σ 3) (σ 5) k) + 1))), some (.int (nI k))]) (nI ((alone (ν 0) (σ 3) (σ 5) k) + 1)) rfl (nI_1 _) 48 rfl d_Mod_odds_45 (by decide) rfl rfl ?_
              refine r_iinc (ls2 := [some (.ref (a 0)), some (.int p), some (.int (nI ((alone (ν 0) (σ 3) (σ 5) k) + 1))), some (.int (nI (k + 1)))]) (nI (k + 1)) rfl (nI_1 _) 51 rfl d_Mod_odds_48 (by decide) rfl rfl ?_
              refine r_goto 24 rfl d_Mod_odds_51 ?_
              refine Runs.cast (ih2 (k + 1) (by omega) (by omega)) (by rw [alone, if_pos h42]; try rfl) rfl (rfl)
      exact L24_1 _ 0 (by omega) (Nat.lt_succ_self _)
    · refine r_ldc2 (v := (-9223372036854775808)) (inTB 1281 (by decide +kernel) rfl) 19 rfl d_Mod_odds_16 ?_
      exact r_lret rfl (Nat.zero_le _) (Nat.zero_le _) d_Mod_odds_19 (by rw [← hQ]; exact ⟨by rw [R_odds, if_neg (fun z => z.2 h13)], rfl⟩)
theorem c_Mod_mean (X : Xn) (a ν : Nat → Nat) (σ : Nat → Nat → Int32) (τ : Nat → Int64) (hn6 : ν 0 ≤ 6) (pv : Nat → Nat) (hpu : ∀ i, i < 6 → σ 3 i = nI (pv i) ∧ pv i ≤ 9999) (p : Int32) : Does X 4 M_Mod_mean [.ref (a 0), .int p] (MW X a ν σ τ) 0 0 (fun (vv : Option Value) (ww : va_W) => vv = some (.long (R_mean (ν 0) pv p)) ∧ ww = MW X a ν σ τ) := by
  generalize hQ : (fun (vv : Option Value) (ww : va_W) => vv = some (.long (R_mean (ν 0) pv p)) ∧ ww = MW X a ν σ τ) = Q
  refine Does.go rfl (Nat.le_of_ble_eq_true rfl) [some (.ref (a 0)), some (.int p), none, none] 2 rfl ?_
  refine r_iload_n rfl 1 rfl d_Mod_mean_0 ?_
  refine r_iconst (nI 0) rfl 2 rfl d_Mod_mean_1 ?_
  refine r_iconst (nI 1) rfl 3 rfl d_Mod_mean_2 ?_
  refine r_callS1 (st2 := [.int (bI (inR p (nI 0) (nI 1)))]) (w2 := MW X a ν σ τ) lk_Mod_within ln_Mod_114 (c_Mod_within X p (nI 0) (nI 1)) (by first | decide | omega) rfl rfl (Nat.le_of_ble_eq_true rfl) (Nat.le_of_ble_eq_true rfl) (Nat.le_of_ble_eq_true rfl) [] rfl rfl rfl rfl rfl 6 rfl d_Mod_mean_3 ?_
  refine r_if_eqB 9 16 rfl rfl d_Mod_mean_6 (fun h6 => ?_) (fun h6 => ?_)
  · refine r_ldc2 (v := (-9223372036854775808)) (inTB 1281 (by decide +kernel) rfl) 19 rfl d_Mod_mean_16 ?_
    exact r_lret rfl (Nat.zero_le _) (Nat.zero_le _) d_Mod_mean_19 (by rw [← hQ]; exact ⟨by rw [R_mean, if_neg (fun z => by rw [h6] at z; exact absurd z.1 (by decide))], rfl⟩)
  · refine r_aload_n rfl 10 rfl d_Mod_mean_9 ?_
    refine r_getf (v := .int (nI (ν 0))) gf_Mod_111 0 rfl rfl 13 rfl d_Mod_mean_10 ?_
    refine r_if_neN (ν 0) (by omega) 16 20 rfl rfl d_Mod_mean_13 (fun h13 => ?_) (fun h13 => ?_)
    · refine r_iconst (nI 0) rfl 21 rfl d_Mod_mean_20 ?_
      refine r_istore_n (ls2 := [some (.ref (a 0)), some (.int p), some (.int (nI 0)), none]) 22 rfl d_Mod_mean_21 (by decide) rfl rfl ?_
      refine r_iconst (nI 0) rfl 23 rfl d_Mod_mean_22 ?_
      refine r_istore_n (ls2 := [some (.ref (a 0)), some (.int p), some (.int (nI 0)), some (.int (nI 0))]) 24 rfl d_Mod_mean_23 (by decide) rfl rfl ?_
      have L24_1 : ∀ (f : Nat) (k : Nat), (k ≤ ν 0) → ν 0 - k < f → Runs X 4 M_Mod_mean 0 0 Q 24 [some (.ref (a 0)), some (.int p), some (.int (nI (psum pv k))), some (.int (nI k))] [] 0 0 (MW X a ν σ τ) := by
        intro f
        induction f with
        | zero => intro k hk hmu; exact absurd hmu (Nat.not_lt_zero _)
        | succ f ih2 =>
          intro k hk hmu
          refine r_iload_n rfl 25 rfl d_Mod_mean_24 ?_
          refine r_aload_n rfl 26 rfl d_Mod_mean_25 ?_
          refine r_getf (v := .int (nI (ν 0))) gf_Mod_111 0 rfl rfl 29 rfl d_Mod_mean_26 ?_
          refine r_icmp_geN k (ν 0) (by omega) (by omega) 32 47 rfl rfl d_Mod_mean_29 (fun h29 => ?_) (fun h29 => ?_)
          · have hps := psum_le (pv := pv) (B := 9999) k (fun i hi => (hpu i (by omega)).2)
            refine r_iload_n rfl 48 rfl d_Mod_mean_47 ?_
            refine r_aload_n rfl 49 rfl d_Mod_mean_48 ?_
            refine r_getf (v := .int (nI (ν 0))) gf_Mod_111 0 rfl rfl 52 rfl d_Mod_mean_49 ?_
            refine r_iload_n rfl 53 rfl d_Mod_mean_52 ?_
            refine r_callS1 (st2 := [.long (R_part (psum pv k) (ν 0) p)]) (w2 := MW X a ν σ τ) lk_Mod_part ln_Mod_308 (c_Mod_part X (psum pv k) (ν 0) (by omega) (by omega) (by omega) p) (by first | decide | omega) rfl rfl (Nat.le_of_ble_eq_true rfl) (Nat.le_of_ble_eq_true rfl) (Nat.le_of_ble_eq_true rfl) [] rfl rfl rfl rfl rfl 56 rfl d_Mod_mean_53 ?_
            exact r_lret rfl (Nat.zero_le _) (Nat.zero_le _) d_Mod_mean_56 (by rw [← hQ]; exact ⟨by rw [R_mean, if_pos ⟨h6, h13⟩, show k = ν 0 by omega], rfl⟩)
          · refine r_iload_n rfl 33 rfl d_Mod_mean_32 ?_
            refine r_aload_n rfl 34 rfl d_Mod_mean_33 ?_
            refine r_getf (v := .ref (a 3)) gf_Mod_18 0 rfl rfl 37 rfl d_Mod_mean_34 ?_
            refine r_iload_n rfl 38 rfl d_Mod_mean_37 ?_
            refine r_iald 3 rfl k rfl (by omega) (by omega) 39 rfl d_Mod_mean_38 ?_
            refine r_topi (nI (pv k)) ((hpu k (by omega)).1) ?_
            refine r_iadd 40 rfl d_Mod_mean_39 ?_
            refine r_topi (nI ((psum pv k) + (pv k))) (nI_add _ _) ?_
            refine r_istore_n (ls2 := [some (.ref (a 0)), some (.int p), some (.int (nI ((psum pv k) + (pv k)))), some (.int (nI k))]) 41 rfl d_Mod_mean_40 (by decide) rfl rfl ?_
            refine r_iinc (ls2 := [some (.ref (a 0)), some (.int p), some (.int (nI ((psum pv k) + (pv k)))), some (.int (nI (k + 1)))]) (nI (k + 1)) rfl (nI_1 _) 44 rfl d_Mod_mean_41 (by decide) rfl rfl ?_
            refine r_goto 24 rfl d_Mod_mean_44 ?_
            exact ih2 (k + 1) (by omega) (by omega)
      exact L24_1 _ 0 (by omega) (Nat.lt_succ_self _)
    · refine r_ldc2 (v := (-9223372036854775808)) (inTB 1281 (by decide +kernel) rfl) 19 rfl d_Mod_mean_16 ?_
      exact r_lret rfl (Nat.zero_le _) (Nat.zero_le _) d_Mod_mean_19 (by rw [← hQ]; exact ⟨by rw [R_mean, if_neg (fun z => z.2 h13)], rfl⟩)
theorem c_Mod_paysAll (X : Xn) (a ν : Nat → Nat) (σ : Nat → Nat → Int32) (τ : Nat → Int64) (hn6 : ν 0 ≤ 6) (p : Nat) (hp : p < 6) : Does X 2 M_Mod_paysAll [.ref (a 0), .int (nI p)] (MW X a ν σ τ) 0 0 (fun (vv : Option Value) (ww : va_W) => vv = none ∧ ww = MW X a ν (u2 (u2 σ 3 (paysN p (σ 3, σ 5) (ν 0)).1) 5 (paysN p (σ 3, σ 5) (ν 0)).2) τ) := by
  generalize hQ : (fun (vv : Option Value) (ww : va_W) => vv = none ∧ ww = MW X a ν (u2 (u2 σ 3 (paysN p (σ 3, σ 5) (ν 0)).1) 5 (paysN p (σ 3, σ 5) (ν 0)).2) τ) = Q
  refine Does.go rfl (Nat.le_of_ble_eq_true rfl) [some (.ref (a 0)), some (.int (nI p)), none, none] 2 rfl ?_
  refine r_iconst (nI 0) rfl 1 rfl d_Mod_paysAll_0 ?_
  refine r_istore_n (ls2 := [some (.ref (a 0)), some (.int (nI p)), some (.int (nI 0)), none]) 2 rfl d_Mod_paysAll_1 (by decide) rfl rfl ?_
  have L2_1 : ∀ (f : Nat) (k : Nat), (k ≤ ν 0) → ν 0 - k < f → Runs X 2 M_Mod_paysAll 0 0 Q 2 [some (.ref (a 0)), some (.int (nI p)), some (.int (nI k)), none] [] 0 0 (MW X a ν (u2 (u2 σ 3 (paysN p (σ 3, σ 5) k).1) 5 (paysN p (σ 3, σ 5) k).2) τ) := by
    intro f
    induction f with
    | zero => intro k hk hmu; exact absurd hmu (Nat.not_lt_zero _)
    | succ f ih2 =>
      intro k hk hmu
      refine r_iload_n rfl 3 rfl d_Mod_paysAll_2 ?_
      refine r_aload_n rfl 4 rfl d_Mod_paysAll_3 ?_
      refine r_getf (v := .int (nI (ν 0))) gf_Mod_111 0 rfl rfl 7 rfl d_Mod_paysAll_4 ?_
      refine r_icmp_geN k (ν 0) (by omega) (by omega) 10 82 rfl rfl d_Mod_paysAll_7 (fun h7 => ?_) (fun h7 => ?_)
      · exact r_vret rfl (Nat.zero_le _) (Nat.zero_le _) d_Mod_paysAll_82 (by rw [← hQ]; exact ⟨rfl, by rw [show k = ν 0 by omega]⟩)
      · refine r_aload_n rfl 11 rfl d_Mod_paysAll_10 ?_
        refine r_getf (v := .ref (a 3)) gf_Mod_18 0 rfl rfl 14 rfl d_Mod_paysAll_11 ?_
        refine r_iload_n rfl 15 rfl d_Mod_paysAll_14 ?_
        refine r_iald 3 rfl p rfl (by omega) (by omega) 16 rfl d_Mod_paysAll_15 ?_
        refine r_aload_n rfl 17 rfl d_Mod_paysAll_16 ?_
        refine r_getf (v := .ref (a 5)) gf_Mod_24 0 rfl rfl 20 rfl d_Mod_paysAll_17 ?_
        refine r_bipush (nI 6) rfl 22 rfl d_Mod_paysAll_20 ?_
        refine r_iload_n rfl 23 rfl d_Mod_paysAll_22 ?_
        refine r_imul 24 rfl d_Mod_paysAll_23 ?_
        refine r_topi (nI (6 * p)) (pk_mul _ _) ?_
        refine r_iload_n rfl 25 rfl d_Mod_paysAll_24 ?_
        refine r_iadd 26 rfl d_Mod_paysAll_25 ?_
        refine r_topi (nI ((6 * p) + k)) (nI_add _ _) ?_
        refine r_iald 5 rfl ((6 * p) + k) rfl (by omega) (by omega) 27 rfl d_Mod_paysAll_26 ?_
        refine r_mmin (inTB 1187 (by decide +kernel) rfl) (by first | decide | omega) (Nat.le_of_ble_eq_true rfl) (Nat.le_of_ble_eq_true rfl) (Nat.le_of_ble_eq_true rfl) 30 rfl d_Mod_paysAll_27 ?_
        refine r_topi (mn ((paysN p (σ 3, σ 5) k).1 p) ((paysN p (σ 3, σ 5) k).2 (6 * p + k))) rfl ?_
        refine r_istore_n (ls2 := [some (.ref (a 0)), some (.int (nI p)), some (.int (nI k)), some (.int (mn ((paysN p (σ 3, σ 5) k).1 p) ((paysN p (σ 3, σ 5) k).2 (6 * p + k))))]) 31 rfl d_Mod_paysAll_30 (by decide) rfl rfl ?_
        refine r_aload_n rfl 32 rfl d_Mod_paysAll_31 ?_
        refine r_getf (v := .ref (a 3)) gf_Mod_18 0 rfl rfl 35 rfl d_Mod_paysAll_32 ?_
        refine r_iload_n rfl 36 rfl d_Mod_paysAll_35 ?_
        refine r_dup2 rfl rfl 37 rfl d_Mod_paysAll_36 ?_
        refine r_iald 3 rfl p rfl (by omega) (by omega) 38 rfl d_Mod_paysAll_37 ?_
        refine r_iload_n rfl 39 rfl d_Mod_paysAll_38 ?_
        refine r_isub 40 rfl d_Mod_paysAll_39 ?_
        refine r_iast (w2 := MW X a ν (u2 (u2 (u2 σ 3 (paysN p (σ 3, σ 5) k).1) 5 (paysN p (σ 3, σ 5) k).2) 3 (upd ((paysN p (σ 3, σ 5) k).1) p (((paysN p (σ 3, σ 5) k).1 p) - (mn ((paysN p (σ 3, σ 5) k).1 p) ((paysN p (σ 3, σ 5) k).2 (6 * p + k)))))) τ) 3 rfl p rfl (by omega) (by omega) rfl 41 rfl d_Mod_paysAll_40 ?_
        refine r_aload_n rfl 42 rfl d_Mod_paysAll_41 ?_
        refine r_getf (v := .ref (a 5)) gf_Mod_24 0 rfl rfl 45 rfl d_Mod_paysAll_42 ?_
        refine r_bipush (nI 6) rfl 47 rfl d_Mod_paysAll_45 ?_
        refine r_iload_n rfl 48 rfl d_Mod_paysAll_47 ?_
        refine r_imul 49 rfl d_Mod_paysAll_48 ?_
        refine r_topi (nI (6 * p)) (pk_mul _ _) ?_
        refine r_iload_n rfl 50 rfl d_Mod_paysAll_49 ?_
        refine r_iadd 51 rfl d_Mod_paysAll_50 ?_
        refine r_topi (nI ((6 * p) + k)) (nI_add _ _) ?_
        refine r_dup2 rfl rfl 52 rfl d_Mod_paysAll_51 ?_
        refine r_iald 5 rfl ((6 * p) + k) rfl (by omega) (by omega) 53 rfl d_Mod_paysAll_52 ?_
        refine r_iload_n rfl 54 rfl d_Mod_paysAll_53 ?_
        refine r_isub 55 rfl d_Mod_paysAll_54 ?_
        refine r_iast (w2 := MW X a ν (u2 (u2 (u2 (u2 σ 3 (paysN p (σ 3, σ 5) k).1) 5 (paysN p (σ 3, σ 5) k).2) 3 (upd ((paysN p (σ 3, σ 5) k).1) p (((paysN p (σ 3, σ 5) k).1 p) - (mn ((paysN p (σ 3, σ 5) k).1 p) ((paysN p (σ 3, σ 5) k).2 (6 * p + k)))))) 5 (upd ((paysN p (σ 3, σ 5) k).2) ((6 * p) + k) (((paysN p (σ 3, σ 5) k).2 ((6 * p) + k)) - (mn ((paysN p (σ 3, σ 5) k).1 p) ((paysN p (σ 3, σ 5) k).2 (6 * p + k)))))) τ) 5 rfl ((6 * p) + k) rfl (by omega) (by omega) rfl 56 rfl d_Mod_paysAll_55 ?_
        refine r_aload_n rfl 57 rfl d_Mod_paysAll_56 ?_
        refine r_getf (v := .ref (a 3)) gf_Mod_18 0 rfl rfl 60 rfl d_Mod_paysAll_57 ?_
        refine r_iload_n rfl 61 rfl d_Mod_paysAll_60 ?_
        refine r_sipush (nI 9999) rfl 64 rfl d_Mod_paysAll_61 ?_
        refine r_aload_n rfl 65 rfl d_Mod_paysAll_64 ?_
        refine r_getf (v := .ref (a 3)) gf_Mod_18 0 rfl rfl 68 rfl d_Mod_paysAll_65 ?_
        refine r_iload_n rfl 69 rfl d_Mod_paysAll_68 ?_
        refine r_iald 3 rfl k rfl (by omega) (by omega) 70 rfl d_Mod_paysAll_69 ?_
        refine r_iload_n rfl 71 rfl d_Mod_paysAll_70 ?_
        refine r_iadd 72 rfl d_Mod_paysAll_71 ?_
        refine r_mmin (inTB 1187 (by decide +kernel) rfl) (by first | decide | omega) (Nat.le_of_ble_eq_true rfl) (Nat.le_of_ble_eq_true rfl) (Nat.le_of_ble_eq_true rfl) 75 rfl d_Mod_paysAll_72 ?_
        refine r_iast (w2 := MW X a ν (u2 (u2 (u2 (u2 (u2 σ 3 (paysN p (σ 3, σ 5) k).1) 5 (paysN p (σ 3, σ 5) k).2) 3 (upd ((paysN p (σ 3, σ 5) k).1) p (((paysN p (σ 3, σ 5) k).1 p) - (mn ((paysN p (σ 3, σ 5) k).1 p) ((paysN p (σ 3, σ 5) k).2 (6 * p + k)))))) 5 (upd ((paysN p (σ 3, σ 5) k).2) ((6 * p) + k) (((paysN p (σ 3, σ 5) k).2 ((6 * p) + k)) - (mn ((paysN p (σ 3, σ 5) k).1 p) ((paysN p (σ 3, σ 5) k).2 (6 * p + k)))))) 3 (upd (upd ((paysN p (σ 3, σ 5) k).1) p (((paysN p (σ 3, σ 5) k).1 p) - (mn ((paysN p (σ 3, σ 5) k).1 p) ((paysN p (σ 3, σ 5) k).2 (6 * p + k))))) k (if (((upd ((paysN p (σ 3, σ 5) k).1) p (((paysN p (σ 3, σ 5) k).1 p) - (mn ((paysN p (σ 3, σ 5) k).1 p) ((paysN p (σ 3, σ 5) k).2 (6 * p + k))))) k) + (mn ((paysN p (σ 3, σ 5) k).1 p) ((paysN p (σ 3, σ 5) k).2 (6 * p + k)))) < (nI 9999) then (((upd ((paysN p (σ 3, σ 5) k).1) p (((paysN p (σ 3, σ 5) k).1 p) - (mn ((paysN p (σ 3, σ 5) k).1 p) ((paysN p (σ 3, σ 5) k).2 (6 * p + k))))) k) + (mn ((paysN p (σ 3, σ 5) k).1 p) ((paysN p (σ 3, σ 5) k).2 (6 * p + k)))) else (nI 9999)))) τ) 3 rfl k rfl (by omega) (by omega) rfl 76 rfl d_Mod_paysAll_75 ?_
        refine r_iinc (ls2 := [some (.ref (a 0)), some (.int (nI p)), some (.int (nI (k + 1))), some (.int (mn ((paysN p (σ 3, σ 5) k).1 p) ((paysN p (σ 3, σ 5) k).2 (6 * p + k))))]) (nI (k + 1)) rfl (nI_1 _) 79 rfl d_Mod_paysAll_76 (by decide) rfl rfl ?_
        refine r_goto 2 rfl d_Mod_paysAll_79 ?_
        refine r_forget (ls2 := [some (.ref (a 0)), some (.int (nI p)), some (.int (nI (k + 1))), none]) 3 rfl ?_
        refine Runs.cast (ih2 (k + 1) (by omega) (by omega)) (rfl) rfl (by rw [pay_w]; rfl; try rfl)
  refine Runs.cast (L2_1 _ 0 (by omega) (Nat.lt_succ_self _)) (rfl) rfl (by rw [show paysN p (σ 3, σ 5) 0 = (σ 3, σ 5) from rfl, pay_0])
